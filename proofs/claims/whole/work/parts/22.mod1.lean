theorem wc_X6_thrown_X6 : ∀ w ∈ u_ws RX6 TX6 10, w ∈ wsX6_thrown := by decide +kernel
theorem wd_X6_thrown_1 : (.fieldLink RX6 28 "GritWheelsModel" "thrown" "I" : Cond) ∈ wsX6_thrown := by decide +kernel
set_option maxHeartbeats 4000000 in
set_option maxRecDepth 100000 in
theorem met_X6_thrown (l : Launch) (D : va_G) (cI cZ cL : ClassId) (mo : Nat) (m4 : Nat) (m5 : Nat) (m6 : Nat) (m7 : Nat) (m8 : Nat) (m9 : Nat) (th : Int32) (nb : Nat) (nq : Nat) (nr : Nat) : Met l yX6_thrown wsX6_thrown ({ frames := 0, cells := 0, slots := 0, locals := 0 }) (gPr [.ref mo] D [(mo, .inr (6, [.int th, .int (nI nb), .int (nI nq), .int (nI nr), .ref m4, .ref m5, .ref m6, .ref m7, .ref m8, .ref m9]))] (gT cI cZ cL)) (va_Qi (fun (zr : Int32) (_ : Unit) => zr = th) (fun _ _ => True) gN) 0 0 gN := by
  refine Met.ofW (cc := cX6_thrown) (maxL := 1) (ret := (some .int)) (by decide +kernel) rfl ?_
  intro p e s m args below meth c s₁ B hml hv
  obtain ⟨rfl, hP, hK⟩ := hv
  have hx := B.exec
  have hb := B.bytes
  have hr := B.returns
  have hts := atoms_spec (ws := wsX6_thrown) B.pre
  have hown : s.vm.findClass RX6 = some m.cls := findClass_of_methodNamed B.named
  have hlocks := B.notSynchronized
  have hS : va_S gN s.heap s.heap [] := va_S.rf
  have hP : va_P D vwCl [(mo, .inr (6, [.int th, .int (nI nb), .int (nI nq), .int (nI nr), .ref m4, .ref m5, .ref m6, .ref m7, .ref m8, .ref m9]))] s.heap := hP
  have hl := lv_entry ([.ref mo]) (n := 1) (Nat.le_of_ble_eq_true rfl)
  rw [lg_entry_eq]
  generalize (lg_sl ([.ref mo]) ++ List.replicate (1 - (lg_sl ([.ref mo])).length) Slot.unset).toArray = ls at hl ⊢
  have hl : lv_has ls 1 [(0, .ref mo)] := hl
  refine lv_aload_n hx hb dX6_thrown_0 rfl (lv_at hl 0 rfl) ?_
  refine va_get (D := D) (ci := 6) (v := .int th) (C := RX6) (T := TX6) (N := 10) hx hb hts wc_X6_thrown_X6 hown hK hP 0 rfl rfl 0 (by decide) (hts _ wd_X6_thrown_1) (fun _ h9 => h9) rfl dX6_thrown_1 ?_
  exact W.iret (v := th) hx hb hr (fun t ht hW => ⟨⟨_, (), rfl, rfl, trivial⟩, hS.F ht⟩) hS.2.2 dX6_thrown_4

theorem wc_X6_fail_X6 : ∀ w ∈ u_ws RX6 TX6 10, w ∈ wsX6_fail := by decide +kernel
theorem wd_X6_fail_1 : (.fieldLink RX6 28 "GritWheelsModel" "thrown" "I" : Cond) ∈ wsX6_fail := by decide +kernel
set_option maxHeartbeats 4000000 in
set_option maxRecDepth 100000 in
theorem met_X6_fail (l : Launch) (D : va_G) (cI cZ cL : ClassId) (mo : Nat) (m4 : Nat) (m5 : Nat) (m6 : Nat) (m7 : Nat) (m8 : Nat) (m9 : Nat) (th : Int32) (nb : Nat) (nq : Nat) (nr : Nat) (x : Int32) : Met l yX6_fail wsX6_fail ({ frames := 0, cells := 0, slots := 0, locals := 0 }) (gPw [.ref mo, .int x] D [(mo, .inr (6, [.int th, .int (nI nb), .int (nI nq), .int (nI nr), .ref m4, .ref m5, .ref m6, .ref m7, .ref m8, .ref m9]))] (gT cI cZ cL)) (va_Qi (fun (zr : Int32) (_ : Unit) => zr = 0) (fun _ t => va_P D vwCl [(mo, .inr (6, [.int x, .int (nI nb), .int (nI nq), .int (nI nr), .ref m4, .ref m5, .ref m6, .ref m7, .ref m8, .ref m9]))] t.heap) (gA (gL [(mo, .inr (6, [.int th, .int (nI nb), .int (nI nq), .int (nI nr), .ref m4, .ref m5, .ref m6, .ref m7, .ref m8, .ref m9]))]))) 0 0 (gA (gL [(mo, .inr (6, [.int th, .int (nI nb), .int (nI nq), .int (nI nr), .ref m4, .ref m5, .ref m6, .ref m7, .ref m8, .ref m9]))])) := by
  refine Met.ofW (cc := cX6_fail) (maxL := 2) (ret := (some .int)) (by decide +kernel) rfl ?_
  intro p e s m args below meth c s₁ B hml hv
  obtain ⟨rfl, hP, hK, hD0⟩ := hv
  have hx := B.exec
  have hb := B.bytes
  have hr := B.returns
  have hts := atoms_spec (ws := wsX6_fail) B.pre
  have hown : s.vm.findClass RX6 = some m.cls := findClass_of_methodNamed B.named
  have hlocks := B.notSynchronized
  have hD := gw_self hD0
  generalize hAe : gA (gL [(mo, .inr (6, [.int th, .int (nI nb), .int (nI nq), .int (nI nr), .ref m4, .ref m5, .ref m6, .ref m7, .ref m8, .ref m9]))]) = A at hD ⊢
  have hS : va_S A s.heap s.heap [] := va_S.rf
  have hP : va_P D vwCl [(mo, .inr (6, [.int th, .int (nI nb), .int (nI nq), .int (nI nr), .ref m4, .ref m5, .ref m6, .ref m7, .ref m8, .ref m9]))] s.heap := hP
  have hl := lv_entry ([.ref mo, .int x]) (n := 2) (Nat.le_of_ble_eq_true rfl)
  rw [lg_entry_eq]
  generalize (lg_sl ([.ref mo, .int x]) ++ List.replicate (2 - (lg_sl ([.ref mo, .int x])).length) Slot.unset).toArray = ls at hl ⊢
  have hl : lv_has ls 2 [(0, .ref mo), (1, .int x)] := hl
  refine lv_aload_n hx hb dX6_fail_0 rfl (lv_at hl 0 rfl) ?_
  refine lv_iload_n hx hb dX6_fail_1 rfl (lv_at hl 1 rfl) ?_
  refine va_put (D := D) (ci := 6) (v := .int x) (ty := .int) (C := RX6) (T := TX6) (N := 10) hx hb hts wc_X6_fail_X6 tyX6 tyX6_ok nmX6 hown hK hP hD hS 0 rfl rfl 0 (by decide) (hts _ wd_X6_fail_1) (fun _ h9 => h9) rfl (by decide +kernel) rfl rfl (Nat.le_of_ble_eq_true rfl) dX6_fail_2 (fun H locs hP hD hS => ?_)
  have hP : va_P D vwCl [(mo, .inr (6, [.int x, .int (nI nb), .int (nI nq), .int (nI nr), .ref m4, .ref m5, .ref m6, .ref m7, .ref m8, .ref m9]))] H := hP
  have hD : va_D A [(mo, .inr (6, [.int x, .int (nI nb), .int (nI nq), .int (nI nr), .ref m4, .ref m5, .ref m6, .ref m7, .ref m8, .ref m9]))] := hD
  refine lv_iconst (v := 0) hx hb dX6_fail_5 (by decide) ?_
  subst hAe
  exact W.iret (v := 0) hx hb hr (fun t ht hW => ⟨⟨_, (), rfl, rfl, gw_hh ht hP⟩, hS.F ht⟩) hS.2.2 dX6_fail_6

set_option maxHeartbeats 4000000 in
set_option maxRecDepth 100000 in
theorem met_X6_isIn (l : Launch) (D : va_G) (cI cZ cL : ClassId) (x : Int32) (y : Int32) (z : Int32) : Met l yX6_isIn wsX6_isIn ({ frames := 0, cells := 0, slots := 0, locals := 0 }) (gPr [.int x, .int y, .int z] D [] (gT cI cZ cL)) (va_Qi (fun (zr : Int32) (_ : Unit) => (zr = 1 ∧ (y ≤ x ∧ x ≤ z)) ∨ (zr = 0 ∧ ¬ (y ≤ x ∧ x ≤ z))) (fun _ _ => True) gN) 0 0 gN := by
  refine Met.ofW (cc := cX6_isIn) (maxL := 3) (ret := (some .boolean)) (by decide +kernel) rfl ?_
  intro p e s m args below meth c s₁ B hml hv
  obtain ⟨rfl, hP, hK⟩ := hv
  have hx := B.exec
  have hb := B.bytes
  have hr := B.returns
  have hts := atoms_spec (ws := wsX6_isIn) B.pre
  have hown : s.vm.findClass RX6 = some m.cls := findClass_of_methodNamed B.named
  have hlocks := B.notSynchronized
  have hS : va_S gN s.heap s.heap [] := va_S.rf
  have hP : va_P D vwCl [] s.heap := hP
  have hl := lv_entry ([.int x, .int y, .int z]) (n := 3) (Nat.le_of_ble_eq_true rfl)
  rw [lg_entry_eq]
  generalize (lg_sl ([.int x, .int y, .int z]) ++ List.replicate (3 - (lg_sl ([.int x, .int y, .int z])).length) Slot.unset).toArray = ls at hl ⊢
  have hl : lv_has ls 3 [(0, .int x), (1, .int y), (2, .int z)] := hl
  refine lv_iload_n hx hb dX6_isIn_0 rfl (lv_at hl 0 rfl) ?_
  refine lv_iload_n hx hb dX6_isIn_1 rfl (lv_at hl 1 rfl) ?_
  refine lv_icmp_lt (tgt := 14) hx hb dX6_isIn_2 (by decide) (fun h1 => ?_) (fun h1 => ?_)
  · skip
    refine lv_iconst (v := 0) hx hb dX6_isIn_14 (by decide) ?_
    exact W.zret (v := 0) hx hb hr rfl (fun t ht hW => ⟨⟨_, (), rfl, Or.inr ⟨rfl, (fun hh => by first | exact absurd h1 (Int32.not_lt.mpr hh.1) | exact absurd h2 (Int32.not_lt.mpr hh.2))⟩, trivial⟩, hS.F ht⟩) hS.2.2 dX6_isIn_15
  · skip
    refine lv_iload_n hx hb dX6_isIn_5 rfl (lv_at hl 0 rfl) ?_
    refine lv_iload_n hx hb dX6_isIn_6 rfl (lv_at hl 2 rfl) ?_
    refine lv_icmp_gt (tgt := 14) hx hb dX6_isIn_7 (by decide) (fun h2 => ?_) (fun h2 => ?_)
    · skip
      refine lv_iconst (v := 0) hx hb dX6_isIn_14 (by decide) ?_
      exact W.zret (v := 0) hx hb hr rfl (fun t ht hW => ⟨⟨_, (), rfl, Or.inr ⟨rfl, (fun hh => by first | exact absurd h1 (Int32.not_lt.mpr hh.1) | exact absurd h2 (Int32.not_lt.mpr hh.2))⟩, trivial⟩, hS.F ht⟩) hS.2.2 dX6_isIn_15
    · skip
      refine lv_iconst (v := 1) hx hb dX6_isIn_10 (by decide) ?_
      refine lv_goto (tgt := 15) hx hb dX6_isIn_11 (by decide) ?_
      exact W.zret (v := 1) hx hb hr rfl (fun t ht hW => ⟨⟨_, (), rfl, Or.inl ⟨rfl, ⟨Int32.not_lt.mp h1, Int32.not_lt.mp h2⟩⟩, trivial⟩, hS.F ht⟩) hS.2.2 dX6_isIn_15

theorem wc_X6_isBed_X6 : ∀ w ∈ u_ws RX6 TX6 10, w ∈ wsX6_isBed := by decide +kernel
theorem wd_X6_isBed_1 : (.fieldLink RX6 32 "GritWheelsModel" "beds" "I" : Cond) ∈ wsX6_isBed := by decide +kernel
set_option maxHeartbeats 4000000 in
set_option maxRecDepth 100000 in
theorem met_X6_isBed (l : Launch) (D : va_G) (cI cZ cL : ClassId) (mo : Nat) (m4 : Nat) (m5 : Nat) (m6 : Nat) (m7 : Nat) (m8 : Nat) (m9 : Nat) (th : Int32) (nb : Nat) (nq : Nat) (nr : Nat) (x : Int32) (hnb : nb ≤ 5) : Met l yX6_isBed wsX6_isBed ({ frames := 1, cells := 0, slots := 0, locals := 22 }) (gPr [.ref mo, .int x] D [(mo, .inr (6, [.int th, .int (nI nb), .int (nI nq), .int (nI nr), .ref m4, .ref m5, .ref m6, .ref m7, .ref m8, .ref m9]))] (gT cI cZ cL)) (va_Qi (fun (zr : Int32) (_ : Unit) => (zr = 1 ∧ (∃ kk, kk < nb ∧ x = nI kk)) ∨ (zr = 0 ∧ ¬ (∃ kk, kk < nb ∧ x = nI kk))) (fun _ _ => True) gN) 0 0 gN := by
  refine Met.ofW (cc := cX6_isBed) (maxL := 2) (ret := (some .boolean)) (by decide +kernel) rfl ?_
  intro p e s m args below meth c s₁ B hml hv
  obtain ⟨rfl, hP, hK⟩ := hv
  have hx := B.exec
  have hb := B.bytes
  have hr := B.returns
  have hts := atoms_spec (ws := wsX6_isBed) B.pre
  have hown : s.vm.findClass RX6 = some m.cls := findClass_of_methodNamed B.named
  have hlocks := B.notSynchronized
  have hS : va_S gN s.heap s.heap [] := va_S.rf
  have hP : va_P D vwCl [(mo, .inr (6, [.int th, .int (nI nb), .int (nI nq), .int (nI nr), .ref m4, .ref m5, .ref m6, .ref m7, .ref m8, .ref m9]))] s.heap := hP
  have hl := lv_entry ([.ref mo, .int x]) (n := 2) (Nat.le_of_ble_eq_true rfl)
  rw [lg_entry_eq]
  generalize (lg_sl ([.ref mo, .int x]) ++ List.replicate (2 - (lg_sl ([.ref mo, .int x])).length) Slot.unset).toArray = ls at hl ⊢
  have hl : lv_has ls 2 [(0, .ref mo), (1, .int x)] := hl
  refine lv_iload_n hx hb dX6_isBed_0 rfl (lv_at hl 1 rfl) ?_
  refine lv_iconst (v := 0) hx hb dX6_isBed_1 (by decide) ?_
  refine lv_aload_n hx hb dX6_isBed_2 rfl (lv_at hl 0 rfl) ?_
  refine va_get (D := D) (ci := 6) (v := .int (nI nb)) (C := RX6) (T := TX6) (N := 10) hx hb hts wc_X6_isBed_X6 hown hK hP 0 rfl rfl 1 (by decide) (hts _ wd_X6_isBed_1) (fun _ h9 => h9) rfl dX6_isBed_3 ?_
  refine lv_iconst (v := 1) hx hb dX6_isBed_6 (by decide) ?_
  refine lv_isub hx hb dX6_isBed_7 ?_
  refine va_calli (va_runS (As := [.int x, .int 0, .int ((nI nb) - 1)]) (rest := []) ⟨hx, hb, hml, hown, hts⟩ (met_X6_isIn l D cI cZ cL x 0 ((nI nb) - 1)) (va_cwS 3 hts gX6_isBed_X6_isIn rfl rfl rfl (by decide +kernel) ⟨Nat.le_of_ble_eq_true rfl, Nat.le_of_ble_eq_true rfl⟩) (gw_psr hK hP (wc := []) [] rfl) rfl rfl hl.1 rfl (lv_room (Nat.le_of_ble_eq_true rfl)) dX6_isBed_8 ⟨Nat.zero_le _, Nat.zero_le _⟩) hS (fun _ _ z => z.elim) (fun _ z => z.elim) (fun r_2 _ t H1 locs ht hvm hw hB hz1 hk1 hS => ?_)
  have hP := gw_ro hP hk1
  generalize H1 = H at hP hS ⊢
  rcases hw with ⟨rfl, hc⟩ | ⟨rfl, hc⟩
  · skip
    exact W.zret (v := 1) hx hb hr rfl (fun t ht hW => ⟨⟨_, (), rfl, Or.inl ⟨rfl, ((gw_isT (by omega)).mp hc)⟩, trivial⟩, hS.F ht⟩) hS.2.2 dX6_isBed_11
  · skip
    exact W.zret (v := 0) hx hb hr rfl (fun t ht hW => ⟨⟨_, (), rfl, Or.inr ⟨rfl, (fun hh => hc ((gw_isT (by omega)).mpr hh))⟩, trivial⟩, hS.F ht⟩) hS.2.2 dX6_isBed_11

theorem wc_X6_isQuarrier_X6 : ∀ w ∈ u_ws RX6 TX6 10, w ∈ wsX6_isQuarrier := by decide +kernel
theorem wd_X6_isQuarrier_1 : (.fieldLink RX6 39 "GritWheelsModel" "quarriers" "I" : Cond) ∈ wsX6_isQuarrier := by decide +kernel
set_option maxHeartbeats 4000000 in
set_option maxRecDepth 100000 in
theorem met_X6_isQuarrier (l : Launch) (D : va_G) (cI cZ cL : ClassId) (mo : Nat) (m4 : Nat) (m5 : Nat) (m6 : Nat) (m7 : Nat) (m8 : Nat) (m9 : Nat) (th : Int32) (nb : Nat) (nq : Nat) (nr : Nat) (x : Int32) (hnq : nq ≤ 6) : Met l yX6_isQuarrier wsX6_isQuarrier ({ frames := 1, cells := 0, slots := 0, locals := 22 }) (gPr [.ref mo, .int x] D [(mo, .inr (6, [.int th, .int (nI nb), .int (nI nq), .int (nI nr), .ref m4, .ref m5, .ref m6, .ref m7, .ref m8, .ref m9]))] (gT cI cZ cL)) (va_Qi (fun (zr : Int32) (_ : Unit) => (zr = 1 ∧ (∃ kk, kk < nq ∧ x = nI kk)) ∨ (zr = 0 ∧ ¬ (∃ kk, kk < nq ∧ x = nI kk))) (fun _ _ => True) gN) 0 0 gN := by
  refine Met.ofW (cc := cX6_isQuarrier) (maxL := 2) (ret := (some .boolean)) (by decide +kernel) rfl ?_
  intro p e s m args below meth c s₁ B hml hv
  obtain ⟨rfl, hP, hK⟩ := hv
  have hx := B.exec
  have hb := B.bytes
  have hr := B.returns
  have hts := atoms_spec (ws := wsX6_isQuarrier) B.pre
  have hown : s.vm.findClass RX6 = some m.cls := findClass_of_methodNamed B.named
  have hlocks := B.notSynchronized
  have hS : va_S gN s.heap s.heap [] := va_S.rf
  have hP : va_P D vwCl [(mo, .inr (6, [.int th, .int (nI nb), .int (nI nq), .int (nI nr), .ref m4, .ref m5, .ref m6, .ref m7, .ref m8, .ref m9]))] s.heap := hP
  have hl := lv_entry ([.ref mo, .int x]) (n := 2) (Nat.le_of_ble_eq_true rfl)
  rw [lg_entry_eq]
  generalize (lg_sl ([.ref mo, .int x]) ++ List.replicate (2 - (lg_sl ([.ref mo, .int x])).length) Slot.unset).toArray = ls at hl ⊢
  have hl : lv_has ls 2 [(0, .ref mo), (1, .int x)] := hl
  refine lv_iload_n hx hb dX6_isQuarrier_0 rfl (lv_at hl 1 rfl) ?_
  refine lv_iconst (v := 0) hx hb dX6_isQuarrier_1 (by decide) ?_
  refine lv_aload_n hx hb dX6_isQuarrier_2 rfl (lv_at hl 0 rfl) ?_
  refine va_get (D := D) (ci := 6) (v := .int (nI nq)) (C := RX6) (T := TX6) (N := 10) hx hb hts wc_X6_isQuarrier_X6 hown hK hP 0 rfl rfl 2 (by decide) (hts _ wd_X6_isQuarrier_1) (fun _ h9 => h9) rfl dX6_isQuarrier_3 ?_
  refine lv_iconst (v := 1) hx hb dX6_isQuarrier_6 (by decide) ?_
  refine lv_isub hx hb dX6_isQuarrier_7 ?_
  refine va_calli (va_runS (As := [.int x, .int 0, .int ((nI nq) - 1)]) (rest := []) ⟨hx, hb, hml, hown, hts⟩ (met_X6_isIn l D cI cZ cL x 0 ((nI nq) - 1)) (va_cwS 3 hts gX6_isQuarrier_X6_isIn rfl rfl rfl (by decide +kernel) ⟨Nat.le_of_ble_eq_true rfl, Nat.le_of_ble_eq_true rfl⟩) (gw_psr hK hP (wc := []) [] rfl) rfl rfl hl.1 rfl (lv_room (Nat.le_of_ble_eq_true rfl)) dX6_isQuarrier_8 ⟨Nat.zero_le _, Nat.zero_le _⟩) hS (fun _ _ z => z.elim) (fun _ z => z.elim) (fun r_2 _ t H1 locs ht hvm hw hB hz1 hk1 hS => ?_)
  have hP := gw_ro hP hk1
  generalize H1 = H at hP hS ⊢
  rcases hw with ⟨rfl, hc⟩ | ⟨rfl, hc⟩
  · skip
    exact W.zret (v := 1) hx hb hr rfl (fun t ht hW => ⟨⟨_, (), rfl, Or.inl ⟨rfl, ((gw_isT (by omega)).mp hc)⟩, trivial⟩, hS.F ht⟩) hS.2.2 dX6_isQuarrier_11
  · skip
    exact W.zret (v := 0) hx hb hr rfl (fun t ht hW => ⟨⟨_, (), rfl, Or.inr ⟨rfl, (fun hh => hc ((gw_isT (by omega)).mpr hh))⟩, trivial⟩, hS.F ht⟩) hS.2.2 dX6_isQuarrier_11

theorem wc_X6_isRaft_X6 : ∀ w ∈ u_ws RX6 TX6 10, w ∈ wsX6_isRaft := by decide +kernel
theorem wd_X6_isRaft_1 : (.fieldLink RX6 42 "GritWheelsModel" "rafts" "I" : Cond) ∈ wsX6_isRaft := by decide +kernel
set_option maxHeartbeats 4000000 in
set_option maxRecDepth 100000 in
theorem met_X6_isRaft (l : Launch) (D : va_G) (cI cZ cL : ClassId) (mo : Nat) (m4 : Nat) (m5 : Nat) (m6 : Nat) (m7 : Nat) (m8 : Nat) (m9 : Nat) (th : Int32) (nb : Nat) (nq : Nat) (nr : Nat) (x : Int32) (hnr : nr ≤ 3) : Met l yX6_isRaft wsX6_isRaft ({ frames := 1, cells := 0, slots := 0, locals := 22 }) (gPr [.ref mo, .int x] D [(mo, .inr (6, [.int th, .int (nI nb), .int (nI nq), .int (nI nr), .ref m4, .ref m5, .ref m6, .ref m7, .ref m8, .ref m9]))] (gT cI cZ cL)) (va_Qi (fun (zr : Int32) (_ : Unit) => (zr = 1 ∧ (∃ kk, kk < nr ∧ x = nI kk)) ∨ (zr = 0 ∧ ¬ (∃ kk, kk < nr ∧ x = nI kk))) (fun _ _ => True) gN) 0 0 gN := by
  refine Met.ofW (cc := cX6_isRaft) (maxL := 2) (ret := (some .boolean)) (by decide +kernel) rfl ?_
  intro p e s m args below meth c s₁ B hml hv
  obtain ⟨rfl, hP, hK⟩ := hv
  have hx := B.exec
  have hb := B.bytes
  have hr := B.returns
  have hts := atoms_spec (ws := wsX6_isRaft) B.pre
  have hown : s.vm.findClass RX6 = some m.cls := findClass_of_methodNamed B.named
  have hlocks := B.notSynchronized
  have hS : va_S gN s.heap s.heap [] := va_S.rf
  have hP : va_P D vwCl [(mo, .inr (6, [.int th, .int (nI nb), .int (nI nq), .int (nI nr), .ref m4, .ref m5, .ref m6, .ref m7, .ref m8, .ref m9]))] s.heap := hP
  have hl := lv_entry ([.ref mo, .int x]) (n := 2) (Nat.le_of_ble_eq_true rfl)
  rw [lg_entry_eq]
  generalize (lg_sl ([.ref mo, .int x]) ++ List.replicate (2 - (lg_sl ([.ref mo, .int x])).length) Slot.unset).toArray = ls at hl ⊢
  have hl : lv_has ls 2 [(0, .ref mo), (1, .int x)] := hl
  refine lv_iload_n hx hb dX6_isRaft_0 rfl (lv_at hl 1 rfl) ?_
  refine lv_iconst (v := 0) hx hb dX6_isRaft_1 (by decide) ?_
  refine lv_aload_n hx hb dX6_isRaft_2 rfl (lv_at hl 0 rfl) ?_
  refine va_get (D := D) (ci := 6) (v := .int (nI nr)) (C := RX6) (T := TX6) (N := 10) hx hb hts wc_X6_isRaft_X6 hown hK hP 0 rfl rfl 3 (by decide) (hts _ wd_X6_isRaft_1) (fun _ h9 => h9) rfl dX6_isRaft_3 ?_
  refine lv_iconst (v := 1) hx hb dX6_isRaft_6 (by decide) ?_
  refine lv_isub hx hb dX6_isRaft_7 ?_
  refine va_calli (va_runS (As := [.int x, .int 0, .int ((nI nr) - 1)]) (rest := []) ⟨hx, hb, hml, hown, hts⟩ (met_X6_isIn l D cI cZ cL x 0 ((nI nr) - 1)) (va_cwS 3 hts gX6_isRaft_X6_isIn rfl rfl rfl (by decide +kernel) ⟨Nat.le_of_ble_eq_true rfl, Nat.le_of_ble_eq_true rfl⟩) (gw_psr hK hP (wc := []) [] rfl) rfl rfl hl.1 rfl (lv_room (Nat.le_of_ble_eq_true rfl)) dX6_isRaft_8 ⟨Nat.zero_le _, Nat.zero_le _⟩) hS (fun _ _ z => z.elim) (fun _ z => z.elim) (fun r_2 _ t H1 locs ht hvm hw hB hz1 hk1 hS => ?_)
  have hP := gw_ro hP hk1
  generalize H1 = H at hP hS ⊢
  rcases hw with ⟨rfl, hc⟩ | ⟨rfl, hc⟩
  · skip
    exact W.zret (v := 1) hx hb hr rfl (fun t ht hW => ⟨⟨_, (), rfl, Or.inl ⟨rfl, ((gw_isT (by omega)).mp hc)⟩, trivial⟩, hS.F ht⟩) hS.2.2 dX6_isRaft_11
  · skip
    exact W.zret (v := 0) hx hb hr rfl (fun t ht hW => ⟨⟨_, (), rfl, Or.inr ⟨rfl, (fun hh => hc ((gw_isT (by omega)).mpr hh))⟩, trivial⟩, hS.F ht⟩) hS.2.2 dX6_isRaft_11

theorem wc_X6_isWheel_X6 : ∀ w ∈ u_ws RX6 TX6 10, w ∈ wsX6_isWheel := by decide +kernel
theorem wd_X6_isWheel_1 : (.fieldLink RX6 25 "GritWheelsModel" "numbers" "[I" : Cond) ∈ wsX6_isWheel := by decide +kernel
set_option maxHeartbeats 4000000 in
set_option maxRecDepth 100000 in
theorem met_X6_isWheel (l : Launch) (D : va_G) (cI cZ cL : ClassId) (mo : Nat) (m4 : Nat) (m5 : Nat) (m6 : Nat) (m7 : Nat) (m8 : Nat) (m9 : Nat) (th : Int32) (nb : Nat) (nq : Nat) (nr : Nat) (day : Nat) (co : Int32) (nw : Nat) (x : Int32) (hnw : nw ≤ 60) : Met l yX6_isWheel wsX6_isWheel ({ frames := 1, cells := 0, slots := 0, locals := 22 }) (gPr [.ref mo, .int x] D [(mo, .inr (6, [.int th, .int (nI nb), .int (nI nq), .int (nI nr), .ref m4, .ref m5, .ref m6, .ref m7, .ref m8, .ref m9])), (m9, .inl (cI, 3, .inl (enN day co nw)))] (gT cI cZ cL)) (va_Qi (fun (zr : Int32) (_ : Unit) => (zr = 1 ∧ (∃ kk, kk < nw ∧ x = nI kk)) ∨ (zr = 0 ∧ ¬ (∃ kk, kk < nw ∧ x = nI kk))) (fun _ _ => True) gN) 0 0 gN := by
  refine Met.ofW (cc := cX6_isWheel) (maxL := 2) (ret := (some .boolean)) (by decide +kernel) rfl ?_
  intro p e s m args below meth c s₁ B hml hv
  obtain ⟨rfl, hP, hK⟩ := hv
  have hx := B.exec
  have hb := B.bytes
  have hr := B.returns
  have hts := atoms_spec (ws := wsX6_isWheel) B.pre
  have hown : s.vm.findClass RX6 = some m.cls := findClass_of_methodNamed B.named
  have hlocks := B.notSynchronized
  have hS : va_S gN s.heap s.heap [] := va_S.rf
  have hP : va_P D vwCl [(mo, .inr (6, [.int th, .int (nI nb), .int (nI nq), .int (nI nr), .ref m4, .ref m5, .ref m6, .ref m7, .ref m8, .ref m9])), (m9, .inl (cI, 3, .inl (enN day co nw)))] s.heap := hP
  have hl := lv_entry ([.ref mo, .int x]) (n := 2) (Nat.le_of_ble_eq_true rfl)
  rw [lg_entry_eq]
  generalize (lg_sl ([.ref mo, .int x]) ++ List.replicate (2 - (lg_sl ([.ref mo, .int x])).length) Slot.unset).toArray = ls at hl ⊢
  have hl : lv_has ls 2 [(0, .ref mo), (1, .int x)] := hl
  refine lv_iload_n hx hb dX6_isWheel_0 rfl (lv_at hl 1 rfl) ?_
  refine lv_iconst (v := 0) hx hb dX6_isWheel_1 (by decide) ?_
  refine lv_aload_n hx hb dX6_isWheel_2 rfl (lv_at hl 0 rfl) ?_
  refine va_get (D := D) (ci := 6) (v := .ref m9) (C := RX6) (T := TX6) (N := 10) hx hb hts wc_X6_isWheel_X6 hown hK hP 0 rfl rfl 9 (by decide) (hts _ wd_X6_isWheel_1) (fun _ h9 => h9) rfl dX6_isWheel_3 ?_
  refine lv_iconst (v := 2) hx hb dX6_isWheel_6 (by decide) ?_
  refine gw_top (y := nI 2) rfl ?_
  refine gw_iald hx hb hK hP 1 0 (k := 2) rfl rfl (by omega) (by decide) dX6_isWheel_7 ?_
  refine gw_top (y := nI nw) rfl ?_
  refine lv_iconst (v := 1) hx hb dX6_isWheel_8 (by decide) ?_
  refine lv_isub hx hb dX6_isWheel_9 ?_
  refine va_calli (va_runS (As := [.int x, .int 0, .int ((nI nw) - 1)]) (rest := []) ⟨hx, hb, hml, hown, hts⟩ (met_X6_isIn l D cI cZ cL x 0 ((nI nw) - 1)) (va_cwS 3 hts gX6_isWheel_X6_isIn rfl rfl rfl (by decide +kernel) ⟨Nat.le_of_ble_eq_true rfl, Nat.le_of_ble_eq_true rfl⟩) (gw_psr hK hP (wc := []) [] rfl) rfl rfl hl.1 rfl (lv_room (Nat.le_of_ble_eq_true rfl)) dX6_isWheel_10 ⟨Nat.zero_le _, Nat.zero_le _⟩) hS (fun _ _ z => z.elim) (fun _ z => z.elim) (fun r_2 _ t H1 locs ht hvm hw hB hz1 hk1 hS => ?_)
  have hP := gw_ro hP hk1
  generalize H1 = H at hP hS ⊢
  rcases hw with ⟨rfl, hc⟩ | ⟨rfl, hc⟩
  · skip
    exact W.zret (v := 1) hx hb hr rfl (fun t ht hW => ⟨⟨_, (), rfl, Or.inl ⟨rfl, ((gw_isT (by omega)).mp hc)⟩, trivial⟩, hS.F ht⟩) hS.2.2 dX6_isWheel_13
  · skip
    exact W.zret (v := 0) hx hb hr rfl (fun t ht hW => ⟨⟨_, (), rfl, Or.inr ⟨rfl, (fun hh => hc ((gw_isT (by omega)).mpr hh))⟩, trivial⟩, hS.F ht⟩) hS.2.2 dX6_isWheel_13

theorem wc_X6_ro_X6 : ∀ w ∈ u_ws RX6 TX6 10, w ∈ wsX6_ro := by decide +kernel
theorem wd_X6_ro_1 : (.fieldLink RX6 13 "GritWheelsModel" "rock" "[I" : Cond) ∈ wsX6_ro := by decide +kernel
set_option maxHeartbeats 4000000 in
set_option maxRecDepth 100000 in
theorem met_X6_ro (l : Launch) (D : va_G) (cI cZ cL : ClassId) (mo : Nat) (m4 : Nat) (m5 : Nat) (m6 : Nat) (m7 : Nat) (m8 : Nat) (m9 : Nat) (th : Int32) (nb : Nat) (nq : Nat) (nr : Nat) (f : Nat → Int32) (i : Nat) (k : Nat) (hi : i < 5) (hk : k < 4) : Met l yX6_ro wsX6_ro ({ frames := 0, cells := 0, slots := 0, locals := 0 }) (gPr [.ref mo, .int (nI i), .int (nI k)] D [(mo, .inr (6, [.int th, .int (nI nb), .int (nI nq), .int (nI nr), .ref m4, .ref m5, .ref m6, .ref m7, .ref m8, .ref m9])), (m5, .inl (cI, 20, .inl f))] (gT cI cZ cL)) (va_Qi (fun (zr : Int32) (_ : Unit) => zr = f (4 * i + k)) (fun _ _ => True) gN) 0 0 gN := by
  refine Met.ofW (cc := cX6_ro) (maxL := 3) (ret := (some .int)) (by decide +kernel) rfl ?_
  intro p e s m args below meth c s₁ B hml hv
  obtain ⟨rfl, hP, hK⟩ := hv
  have hx := B.exec
  have hb := B.bytes
  have hr := B.returns
  have hts := atoms_spec (ws := wsX6_ro) B.pre
  have hown : s.vm.findClass RX6 = some m.cls := findClass_of_methodNamed B.named
  have hlocks := B.notSynchronized
  have hS : va_S gN s.heap s.heap [] := va_S.rf
  have hP : va_P D vwCl [(mo, .inr (6, [.int th, .int (nI nb), .int (nI nq), .int (nI nr), .ref m4, .ref m5, .ref m6, .ref m7, .ref m8, .ref m9])), (m5, .inl (cI, 20, .inl f))] s.heap := hP
  have hl := lv_entry ([.ref mo, .int (nI i), .int (nI k)]) (n := 3) (Nat.le_of_ble_eq_true rfl)
  rw [lg_entry_eq]
  generalize (lg_sl ([.ref mo, .int (nI i), .int (nI k)]) ++ List.replicate (3 - (lg_sl ([.ref mo, .int (nI i), .int (nI k)])).length) Slot.unset).toArray = ls at hl ⊢
  have hl : lv_has ls 3 [(0, .ref mo), (1, .int (nI i)), (2, .int (nI k))] := hl
  refine lv_aload_n hx hb dX6_ro_0 rfl (lv_at hl 0 rfl) ?_
  refine va_get (D := D) (ci := 6) (v := .ref m5) (C := RX6) (T := TX6) (N := 10) hx hb hts wc_X6_ro_X6 hown hK hP 0 rfl rfl 5 (by decide) (hts _ wd_X6_ro_1) (fun _ h9 => h9) rfl dX6_ro_1 ?_
  refine lv_iconst (v := 4) hx hb dX6_ro_4 (by decide) ?_
  refine lv_iload_n hx hb dX6_ro_5 rfl (lv_at hl 1 rfl) ?_
  refine lv_imul hx hb dX6_ro_6 ?_
  refine gw_top (y := nI (4 * i)) (nI_mul 4 i) ?_
  refine lv_iload_n hx hb dX6_ro_7 rfl (lv_at hl 2 rfl) ?_
  refine lv_iadd hx hb dX6_ro_8 ?_
  refine gw_top (y := nI ((4 * i) + k)) (nI_add (4 * i) k) ?_
  refine gw_iald hx hb hK hP 1 0 (k := (4 * i) + k) rfl rfl (by omega) (by decide) dX6_ro_9 ?_
  exact W.iret (v := f ((4 * i) + k)) hx hb hr (fun t ht hW => ⟨⟨_, (), rfl, rfl, trivial⟩, hS.F ht⟩) hS.2.2 dX6_ro_10

theorem wc_X6_pe_X6 : ∀ w ∈ u_ws RX6 TX6 10, w ∈ wsX6_pe := by decide +kernel
theorem wd_X6_pe_1 : (.fieldLink RX6 16 "GritWheelsModel" "people" "[I" : Cond) ∈ wsX6_pe := by decide +kernel
set_option maxHeartbeats 4000000 in
set_option maxRecDepth 100000 in
theorem met_X6_pe (l : Launch) (D : va_G) (cI cZ cL : ClassId) (mo : Nat) (m4 : Nat) (m5 : Nat) (m6 : Nat) (m7 : Nat) (m8 : Nat) (m9 : Nat) (th : Int32) (nb : Nat) (nq : Nat) (nr : Nat) (f : Nat → Int32) (i : Nat) (k : Nat) (hi : i < 6) (hk : k < 4) : Met l yX6_pe wsX6_pe ({ frames := 0, cells := 0, slots := 0, locals := 0 }) (gPr [.ref mo, .int (nI i), .int (nI k)] D [(mo, .inr (6, [.int th, .int (nI nb), .int (nI nq), .int (nI nr), .ref m4, .ref m5, .ref m6, .ref m7, .ref m8, .ref m9])), (m6, .inl (cI, 24, .inl f))] (gT cI cZ cL)) (va_Qi (fun (zr : Int32) (_ : Unit) => zr = f (4 * i + k)) (fun _ _ => True) gN) 0 0 gN := by
  refine Met.ofW (cc := cX6_pe) (maxL := 3) (ret := (some .int)) (by decide +kernel) rfl ?_
  intro p e s m args below meth c s₁ B hml hv
  obtain ⟨rfl, hP, hK⟩ := hv
  have hx := B.exec
  have hb := B.bytes
  have hr := B.returns
  have hts := atoms_spec (ws := wsX6_pe) B.pre
  have hown : s.vm.findClass RX6 = some m.cls := findClass_of_methodNamed B.named
  have hlocks := B.notSynchronized
  have hS : va_S gN s.heap s.heap [] := va_S.rf
  have hP : va_P D vwCl [(mo, .inr (6, [.int th, .int (nI nb), .int (nI nq), .int (nI nr), .ref m4, .ref m5, .ref m6, .ref m7, .ref m8, .ref m9])), (m6, .inl (cI, 24, .inl f))] s.heap := hP
  have hl := lv_entry ([.ref mo, .int (nI i), .int (nI k)]) (n := 3) (Nat.le_of_ble_eq_true rfl)
  rw [lg_entry_eq]
  generalize (lg_sl ([.ref mo, .int (nI i), .int (nI k)]) ++ List.replicate (3 - (lg_sl ([.ref mo, .int (nI i), .int (nI k)])).length) Slot.unset).toArray = ls at hl ⊢
  have hl : lv_has ls 3 [(0, .ref mo), (1, .int (nI i)), (2, .int (nI k))] := hl
  refine lv_aload_n hx hb dX6_pe_0 rfl (lv_at hl 0 rfl) ?_
  refine va_get (D := D) (ci := 6) (v := .ref m6) (C := RX6) (T := TX6) (N := 10) hx hb hts wc_X6_pe_X6 hown hK hP 0 rfl rfl 6 (by decide) (hts _ wd_X6_pe_1) (fun _ h9 => h9) rfl dX6_pe_1 ?_
  refine lv_iconst (v := 4) hx hb dX6_pe_4 (by decide) ?_
  refine lv_iload_n hx hb dX6_pe_5 rfl (lv_at hl 1 rfl) ?_
  refine lv_imul hx hb dX6_pe_6 ?_
  refine gw_top (y := nI (4 * i)) (nI_mul 4 i) ?_
  refine lv_iload_n hx hb dX6_pe_7 rfl (lv_at hl 2 rfl) ?_
  refine lv_iadd hx hb dX6_pe_8 ?_
  refine gw_top (y := nI ((4 * i) + k)) (nI_add (4 * i) k) ?_
  refine gw_iald hx hb hK hP 1 0 (k := (4 * i) + k) rfl rfl (by omega) (by decide) dX6_pe_9 ?_
  exact W.iret (v := f ((4 * i) + k)) hx hb hr (fun t ht hW => ⟨⟨_, (), rfl, rfl, trivial⟩, hS.F ht⟩) hS.2.2 dX6_pe_10

theorem wc_X6_st_X6 : ∀ w ∈ u_ws RX6 TX6 10, w ∈ wsX6_st := by decide +kernel
theorem wd_X6_st_1 : (.fieldLink RX6 19 "GritWheelsModel" "stones" "[I" : Cond) ∈ wsX6_st := by decide +kernel
set_option maxHeartbeats 4000000 in
set_option maxRecDepth 100000 in
theorem met_X6_st (l : Launch) (D : va_G) (cI cZ cL : ClassId) (mo : Nat) (m4 : Nat) (m5 : Nat) (m6 : Nat) (m7 : Nat) (m8 : Nat) (m9 : Nat) (th : Int32) (nb : Nat) (nq : Nat) (nr : Nat) (f : Nat → Int32) (i : Nat) (k : Nat) (hi : i < 60) (hk : k < 5) : Met l yX6_st wsX6_st ({ frames := 0, cells := 0, slots := 0, locals := 0 }) (gPr [.ref mo, .int (nI i), .int (nI k)] D [(mo, .inr (6, [.int th, .int (nI nb), .int (nI nq), .int (nI nr), .ref m4, .ref m5, .ref m6, .ref m7, .ref m8, .ref m9])), (m7, .inl (cI, 300, .inl f))] (gT cI cZ cL)) (va_Qi (fun (zr : Int32) (_ : Unit) => zr = f (5 * i + k)) (fun _ _ => True) gN) 0 0 gN := by
  refine Met.ofW (cc := cX6_st) (maxL := 3) (ret := (some .int)) (by decide +kernel) rfl ?_
  intro p e s m args below meth c s₁ B hml hv
  obtain ⟨rfl, hP, hK⟩ := hv
  have hx := B.exec
  have hb := B.bytes
  have hr := B.returns
  have hts := atoms_spec (ws := wsX6_st) B.pre
  have hown : s.vm.findClass RX6 = some m.cls := findClass_of_methodNamed B.named
  have hlocks := B.notSynchronized
  have hS : va_S gN s.heap s.heap [] := va_S.rf
  have hP : va_P D vwCl [(mo, .inr (6, [.int th, .int (nI nb), .int (nI nq), .int (nI nr), .ref m4, .ref m5, .ref m6, .ref m7, .ref m8, .ref m9])), (m7, .inl (cI, 300, .inl f))] s.heap := hP
  have hl := lv_entry ([.ref mo, .int (nI i), .int (nI k)]) (n := 3) (Nat.le_of_ble_eq_true rfl)
  rw [lg_entry_eq]
  generalize (lg_sl ([.ref mo, .int (nI i), .int (nI k)]) ++ List.replicate (3 - (lg_sl ([.ref mo, .int (nI i), .int (nI k)])).length) Slot.unset).toArray = ls at hl ⊢
  have hl : lv_has ls 3 [(0, .ref mo), (1, .int (nI i)), (2, .int (nI k))] := hl
  refine lv_aload_n hx hb dX6_st_0 rfl (lv_at hl 0 rfl) ?_
  refine va_get (D := D) (ci := 6) (v := .ref m7) (C := RX6) (T := TX6) (N := 10) hx hb hts wc_X6_st_X6 hown hK hP 0 rfl rfl 7 (by decide) (hts _ wd_X6_st_1) (fun _ h9 => h9) rfl dX6_st_1 ?_
  refine lv_iconst (v := 5) hx hb dX6_st_4 (by decide) ?_
  refine lv_iload_n hx hb dX6_st_5 rfl (lv_at hl 1 rfl) ?_
  refine lv_imul hx hb dX6_st_6 ?_
  refine gw_top (y := nI (5 * i)) (nI_mul 5 i) ?_
  refine lv_iload_n hx hb dX6_st_7 rfl (lv_at hl 2 rfl) ?_
  refine lv_iadd hx hb dX6_st_8 ?_
  refine gw_top (y := nI ((5 * i) + k)) (nI_add (5 * i) k) ?_
  refine gw_iald hx hb hK hP 1 0 (k := (5 * i) + k) rfl rfl (by omega) (by decide) dX6_st_9 ?_
  exact W.iret (v := f ((5 * i) + k)) hx hb hr (fun t ht hW => ⟨⟨_, (), rfl, rfl, trivial⟩, hS.F ht⟩) hS.2.2 dX6_st_10

theorem wc_X6_put_X6 : ∀ w ∈ u_ws RX6 TX6 10, w ∈ wsX6_put := by decide +kernel
theorem wd_X6_put_1 : (.fieldLink RX6 16 "GritWheelsModel" "people" "[I" : Cond) ∈ wsX6_put := by decide +kernel
set_option maxHeartbeats 4000000 in
set_option maxRecDepth 100000 in
theorem met_X6_put (l : Launch) (D : va_G) (cI cZ cL : ClassId) (mo : Nat) (m4 : Nat) (m5 : Nat) (m6 : Nat) (m7 : Nat) (m8 : Nat) (m9 : Nat) (th : Int32) (nb : Nat) (nq : Nat) (nr : Nat) (f : Nat → Int32) (i : Nat) (k : Nat) (y : Int32) (hi : i < 6) (hk : k < 4) : Met l yX6_put wsX6_put ({ frames := 0, cells := 0, slots := 0, locals := 0 }) (gPw [.ref mo, .int (nI i), .int (nI k), .int y] D [(mo, .inr (6, [.int th, .int (nI nb), .int (nI nq), .int (nI nr), .ref m4, .ref m5, .ref m6, .ref m7, .ref m8, .ref m9])), (m6, .inl (cI, 24, .inl f))] (gT cI cZ cL)) (va_Qv (fun (_ : Unit) => True) (fun _ t => va_P D vwCl [(mo, .inr (6, [.int th, .int (nI nb), .int (nI nq), .int (nI nr), .ref m4, .ref m5, .ref m6, .ref m7, .ref m8, .ref m9])), (m6, .inl (cI, 24, .inl (upd f (4 * i + k) y)))] t.heap) (gA (gL [(mo, .inr (6, [.int th, .int (nI nb), .int (nI nq), .int (nI nr), .ref m4, .ref m5, .ref m6, .ref m7, .ref m8, .ref m9])), (m6, .inl (cI, 24, .inl f))]))) 0 0 (gA (gL [(mo, .inr (6, [.int th, .int (nI nb), .int (nI nq), .int (nI nr), .ref m4, .ref m5, .ref m6, .ref m7, .ref m8, .ref m9])), (m6, .inl (cI, 24, .inl f))])) := by
  refine Met.ofW (cc := cX6_put) (maxL := 4) (ret := none) (by decide +kernel) rfl ?_
  intro p e s m args below meth c s₁ B hml hv
  obtain ⟨rfl, hP, hK, hD0⟩ := hv
  have hx := B.exec
  have hb := B.bytes
  have hr := B.returns
  have hts := atoms_spec (ws := wsX6_put) B.pre
  have hown : s.vm.findClass RX6 = some m.cls := findClass_of_methodNamed B.named
  have hlocks := B.notSynchronized
  have hD := gw_self hD0
  generalize hAe : gA (gL [(mo, .inr (6, [.int th, .int (nI nb), .int (nI nq), .int (nI nr), .ref m4, .ref m5, .ref m6, .ref m7, .ref m8, .ref m9])), (m6, .inl (cI, 24, .inl f))]) = A at hD ⊢
  have hS : va_S A s.heap s.heap [] := va_S.rf
  have hP : va_P D vwCl [(mo, .inr (6, [.int th, .int (nI nb), .int (nI nq), .int (nI nr), .ref m4, .ref m5, .ref m6, .ref m7, .ref m8, .ref m9])), (m6, .inl (cI, 24, .inl f))] s.heap := hP
  have hl := lv_entry ([.ref mo, .int (nI i), .int (nI k), .int y]) (n := 4) (Nat.le_of_ble_eq_true rfl)
  rw [lg_entry_eq]
  generalize (lg_sl ([.ref mo, .int (nI i), .int (nI k), .int y]) ++ List.replicate (4 - (lg_sl ([.ref mo, .int (nI i), .int (nI k), .int y])).length) Slot.unset).toArray = ls at hl ⊢
  have hl : lv_has ls 4 [(0, .ref mo), (1, .int (nI i)), (2, .int (nI k)), (3, .int y)] := hl
  refine lv_aload_n hx hb dX6_put_0 rfl (lv_at hl 0 rfl) ?_
  refine va_get (D := D) (ci := 6) (v := .ref m6) (C := RX6) (T := TX6) (N := 10) hx hb hts wc_X6_put_X6 hown hK hP 0 rfl rfl 6 (by decide) (hts _ wd_X6_put_1) (fun _ h9 => h9) rfl dX6_put_1 ?_
  refine lv_iconst (v := 4) hx hb dX6_put_4 (by decide) ?_
  refine lv_iload_n hx hb dX6_put_5 rfl (lv_at hl 1 rfl) ?_
  refine lv_imul hx hb dX6_put_6 ?_
  refine gw_top (y := nI (4 * i)) (nI_mul 4 i) ?_
  refine lv_iload_n hx hb dX6_put_7 rfl (lv_at hl 2 rfl) ?_
  refine lv_iadd hx hb dX6_put_8 ?_
  refine gw_top (y := nI ((4 * i) + k)) (nI_add (4 * i) k) ?_
  refine lv_iload_n hx hb dX6_put_9 rfl (lv_at hl 3 rfl) ?_
  refine gw_iast hx hb hK hP hD hS 1 0 (k := (4 * i) + k) rfl rfl (by omega) (by decide) dX6_put_10 (fun H locs hP hD hS => ?_)
  have hP : va_P D vwCl [(mo, .inr (6, [.int th, .int (nI nb), .int (nI nq), .int (nI nr), .ref m4, .ref m5, .ref m6, .ref m7, .ref m8, .ref m9])), (m6, .inl (cI, 24, .inl (upd f ((4 * i) + k) y)))] H := hP
  have hD : va_D A [(mo, .inr (6, [.int th, .int (nI nb), .int (nI nq), .int (nI nr), .ref m4, .ref m5, .ref m6, .ref m7, .ref m8, .ref m9])), (m6, .inl (cI, 24, .inl (upd f ((4 * i) + k) y)))] := hD
  subst hAe
  exact W.vret hx hb hr (fun t ht hW => ⟨⟨(), rfl, trivial, gw_hh ht hP⟩, hS.F ht⟩) hS.2.2 dX6_put_11

set_option maxHeartbeats 4000000 in
set_option maxRecDepth 100000 in
theorem met_X6_weight (l : Launch) (D : va_G) (cI cZ cL : ClassId) (mo : Nat) (m4 : Nat) (m5 : Nat) (m6 : Nat) (m7 : Nat) (m8 : Nat) (m9 : Nat) (th : Int32) (nb : Nat) (nq : Nat) (nr : Nat) (Q : Nat → Nat → Int32) (i : Nat) (hi : i < 60) : Met l yX6_weight wsX6_weight ({ frames := 1, cells := 0, slots := 0, locals := 22 }) (gPr [.ref mo, .int (nI i)] D [(mo, .inr (6, [.int th, .int (nI nb), .int (nI nq), .int (nI nr), .ref m4, .ref m5, .ref m6, .ref m7, .ref m8, .ref m9])), (m7, .inl (cI, 300, .inl (enS Q)))] (gT cI cZ cL)) (va_Qi (fun (zr : Int32) (_ : Unit) => zr = 2 * Q 11 i * Q 11 i) (fun _ _ => True) gN) 0 0 gN := by
  refine Met.ofW (cc := cX6_weight) (maxL := 2) (ret := (some .int)) (by decide +kernel) rfl ?_
  intro p e s m args below meth c s₁ B hml hv
  obtain ⟨rfl, hP, hK⟩ := hv
  have hx := B.exec
  have hb := B.bytes
  have hr := B.returns
  have hts := atoms_spec (ws := wsX6_weight) B.pre
  have hown : s.vm.findClass RX6 = some m.cls := findClass_of_methodNamed B.named
  have hlocks := B.notSynchronized
  have hS : va_S gN s.heap s.heap [] := va_S.rf
  have hP : va_P D vwCl [(mo, .inr (6, [.int th, .int (nI nb), .int (nI nq), .int (nI nr), .ref m4, .ref m5, .ref m6, .ref m7, .ref m8, .ref m9])), (m7, .inl (cI, 300, .inl (enS Q)))] s.heap := hP
  have hl := lv_entry ([.ref mo, .int (nI i)]) (n := 2) (Nat.le_of_ble_eq_true rfl)
  rw [lg_entry_eq]
  generalize (lg_sl ([.ref mo, .int (nI i)]) ++ List.replicate (2 - (lg_sl ([.ref mo, .int (nI i)])).length) Slot.unset).toArray = ls at hl ⊢
  have hl : lv_has ls 2 [(0, .ref mo), (1, .int (nI i))] := hl
  refine lv_iconst (v := 2) hx hb dX6_weight_0 (by decide) ?_
  refine lv_aload_n hx hb dX6_weight_1 rfl (lv_at hl 0 rfl) ?_
  refine lv_iload_n hx hb dX6_weight_2 rfl (lv_at hl 1 rfl) ?_
  refine lv_iconst (v := 1) hx hb dX6_weight_3 (by decide) ?_
  refine va_calli (va_runV (As := [.int (nI i), .int 1]) (rest := [.int 2]) ⟨hx, hb, hml, hown, hts⟩ (met_X6_st l D cI cZ cL mo m4 m5 m6 m7 m8 m9 th nb nq nr (enS Q) i 1 (by first | assumption | omega) (by first | assumption | omega)) (cwV 2 hts gX6_weight_X6_st rfl rfl rfl (by decide +kernel) ⟨Nat.le_of_ble_eq_true rfl, Nat.le_of_ble_eq_true rfl⟩) (gw_pvr hK hP (wc := [(mo, .inr (6, [.int th, .int (nI nb), .int (nI nq), .int (nI nr), .ref m4, .ref m5, .ref m6, .ref m7, .ref m8, .ref m9])), (m7, .inl (cI, 300, .inl (enS Q)))]) [0, 1] rfl 6 rfl rfl rfl) rfl rfl hl.1 rfl (lv_room (Nat.le_of_ble_eq_true rfl)) dX6_weight_4 ⟨Nat.zero_le _, Nat.zero_le _⟩) hS (fun _ _ z => z.elim) (fun _ z => z.elim) (fun r_2 _ t H1 locs ht hvm hw hB hz1 hk1 hS => ?_)
  have hP := gw_ro hP hk1
  generalize H1 = H at hP hS ⊢
  subst hw
  refine gw_top (y := Q 11 i) (enS_1 Q i) ?_
  refine lv_imul hx hb dX6_weight_7 ?_
  refine lv_aload_n hx hb dX6_weight_8 rfl (lv_at hl 0 rfl) ?_
  refine lv_iload_n hx hb dX6_weight_9 rfl (lv_at hl 1 rfl) ?_
  refine lv_iconst (v := 1) hx hb dX6_weight_10 (by decide) ?_
  refine va_calli (va_runV (As := [.int (nI i), .int 1]) (rest := [.int (2 * (Q 11 i))]) ⟨hx, hb, hml, hown, hts⟩ (met_X6_st l D cI cZ cL mo m4 m5 m6 m7 m8 m9 th nb nq nr (enS Q) i 1 (by first | assumption | omega) (by first | assumption | omega)) (cwV 2 hts gX6_weight_X6_st rfl rfl rfl (by decide +kernel) ⟨Nat.le_of_ble_eq_true rfl, Nat.le_of_ble_eq_true rfl⟩) (gw_pvr hK hP (wc := [(mo, .inr (6, [.int th, .int (nI nb), .int (nI nq), .int (nI nr), .ref m4, .ref m5, .ref m6, .ref m7, .ref m8, .ref m9])), (m7, .inl (cI, 300, .inl (enS Q)))]) [0, 1] rfl 6 rfl rfl rfl) rfl rfl hl.1 rfl (lv_room (Nat.le_of_ble_eq_true rfl)) dX6_weight_11 ⟨Nat.zero_le _, Nat.zero_le _⟩) hS (fun _ _ z => z.elim) (fun _ z => z.elim) (fun r_4 _ t H1 locs ht hvm hw hB hz1 hk1 hS => ?_)
  have hP := gw_ro hP hk1
  generalize H1 = H at hP hS ⊢
  subst hw
  refine gw_top (y := Q 11 i) (enS_1 Q i) ?_
  refine lv_imul hx hb dX6_weight_14 ?_
  exact W.iret (v := (2 * (Q 11 i)) * (Q 11 i)) hx hb hr (fun t ht hW => ⟨⟨_, (), rfl, rfl, trivial⟩, hS.F ht⟩) hS.2.2 dX6_weight_15

set_option maxHeartbeats 4000000 in
set_option maxRecDepth 100000 in
theorem met_X6_worth (l : Launch) (D : va_G) (cI cZ cL : ClassId) (mo : Nat) (m4 : Nat) (m5 : Nat) (m6 : Nat) (m7 : Nat) (m8 : Nat) (m9 : Nat) (th : Int32) (nb : Nat) (nq : Nat) (nr : Nat) (Q : Nat → Nat → Int32) (nw : Nat) (i : Nat) (hi : i < nw) (hnw : nw ≤ 60) (hnb : nb ≤ 5) (hof : gOf Q nb nw) (hz : ∀ j, Q 12 j = 0 ∨ Q 12 j = 1) : Met l yX6_worth wsX6_worth ({ frames := 1, cells := 0, slots := 0, locals := 22 }) (gPr [.ref mo, .int (nI i)] D [(mo, .inr (6, [.int th, .int (nI nb), .int (nI nq), .int (nI nr), .ref m4, .ref m5, .ref m6, .ref m7, .ref m8, .ref m9])), (m5, .inl (cI, 20, .inl (enR Q))), (m7, .inl (cI, 300, .inl (enS Q)))] (gT cI cZ cL)) (va_Qi (fun (zr : Int32) (_ : Unit) => zr = gWorth (Q 11 i) (Q 10 i) (Q 13 i) (Q 12 i)) (fun _ _ => True) gN) 0 0 gN := by
  refine Met.ofW (cc := cX6_worth) (maxL := 3) (ret := (some .int)) (by decide +kernel) rfl ?_
  intro p e s m args below meth c s₁ B hml hv
  obtain ⟨rfl, hP, hK⟩ := hv
  have hx := B.exec
  have hb := B.bytes
  have hr := B.returns
  have hts := atoms_spec (ws := wsX6_worth) B.pre
  have hown : s.vm.findClass RX6 = some m.cls := findClass_of_methodNamed B.named
  have hlocks := B.notSynchronized
  have hS : va_S gN s.heap s.heap [] := va_S.rf
  have hP : va_P D vwCl [(mo, .inr (6, [.int th, .int (nI nb), .int (nI nq), .int (nI nr), .ref m4, .ref m5, .ref m6, .ref m7, .ref m8, .ref m9])), (m5, .inl (cI, 20, .inl (enR Q))), (m7, .inl (cI, 300, .inl (enS Q)))] s.heap := hP
  have hl := lv_entry ([.ref mo, .int (nI i)]) (n := 3) (Nat.le_of_ble_eq_true rfl)
  rw [lg_entry_eq]
  generalize (lg_sl ([.ref mo, .int (nI i)]) ++ List.replicate (3 - (lg_sl ([.ref mo, .int (nI i)])).length) Slot.unset).toArray = ls at hl ⊢
  have hl : lv_has ls 3 [(0, .ref mo), (1, .int (nI i))] := hl
  obtain ⟨b, hb2, hso, hgr⟩ := hof i hi
  refine lv_aload_n hx hb dX6_worth_0 rfl (lv_at hl 0 rfl) ?_
  refine lv_iload_n hx hb dX6_worth_1 rfl (lv_at hl 1 rfl) ?_
  refine lv_iconst (v := 2) hx hb dX6_worth_2 (by decide) ?_
  refine va_calli (va_runV (As := [.int (nI i), .int 2]) (rest := []) ⟨hx, hb, hml, hown, hts⟩ (met_X6_st l D cI cZ cL mo m4 m5 m6 m7 m8 m9 th nb nq nr (enS Q) i 2 (by first | assumption | omega) (by first | assumption | omega)) (cwV 2 hts gX6_worth_X6_st rfl rfl rfl (by decide +kernel) ⟨Nat.le_of_ble_eq_true rfl, Nat.le_of_ble_eq_true rfl⟩) (gw_pvr hK hP (wc := [(mo, .inr (6, [.int th, .int (nI nb), .int (nI nq), .int (nI nr), .ref m4, .ref m5, .ref m6, .ref m7, .ref m8, .ref m9])), (m7, .inl (cI, 300, .inl (enS Q)))]) [0, 2] rfl 6 rfl rfl rfl) rfl rfl hl.1 rfl (lv_room (Nat.le_of_ble_eq_true rfl)) dX6_worth_3 ⟨Nat.zero_le _, Nat.zero_le _⟩) hS (fun _ _ z => z.elim) (fun _ z => z.elim) (fun r_2 _ t H1 locs ht hvm hw hB hz1 hk1 hS => ?_)
  have hP := gw_ro hP hk1
  generalize H1 = H at hP hS ⊢
  subst hw
  refine gw_top (y := Q 13 i) (enS_2 Q i) ?_
  refine lv_iconst (v := 4) hx hb dX6_worth_6 (by decide) ?_
  refine lv_icmp_ne (tgt := 12) hx hb dX6_worth_7 (by decide) (fun h1 => ?_) (fun h1 => ?_)
  · skip
    refine lv_aload_n hx hb dX6_worth_12 rfl (lv_at hl 0 rfl) ?_
    refine lv_iload_n hx hb dX6_worth_13 rfl (lv_at hl 1 rfl) ?_
    refine lv_iconst (v := 1) hx hb dX6_worth_14 (by decide) ?_
    refine va_calli (va_runV (As := [.int (nI i), .int 1]) (rest := []) ⟨hx, hb, hml, hown, hts⟩ (met_X6_st l D cI cZ cL mo m4 m5 m6 m7 m8 m9 th nb nq nr (enS Q) i 1 (by first | assumption | omega) (by first | assumption | omega)) (cwV 2 hts gX6_worth_X6_st rfl rfl rfl (by decide +kernel) ⟨Nat.le_of_ble_eq_true rfl, Nat.le_of_ble_eq_true rfl⟩) (gw_pvr hK hP (wc := [(mo, .inr (6, [.int th, .int (nI nb), .int (nI nq), .int (nI nr), .ref m4, .ref m5, .ref m6, .ref m7, .ref m8, .ref m9])), (m7, .inl (cI, 300, .inl (enS Q)))]) [0, 2] rfl 6 rfl rfl rfl) rfl rfl hl.1 rfl (lv_room (Nat.le_of_ble_eq_true rfl)) dX6_worth_15 ⟨Nat.zero_le _, Nat.zero_le _⟩) hS (fun _ _ z => z.elim) (fun _ z => z.elim) (fun r_5 _ t H1 locs ht hvm hw hB hz1 hk1 hS => ?_)
    have hP := gw_ro hP hk1
    generalize H1 = H at hP hS ⊢
    subst hw
    refine gw_top (y := Q 11 i) (enS_1 Q i) ?_
    refine lv_bipush (v := 10) hx hb dX6_worth_18 (by decide) ?_
    refine lv_aload_n hx hb dX6_worth_20 rfl (lv_at hl 0 rfl) ?_
    refine lv_aload_n hx hb dX6_worth_21 rfl (lv_at hl 0 rfl) ?_
    refine lv_iload_n hx hb dX6_worth_22 rfl (lv_at hl 1 rfl) ?_
    refine lv_iconst (v := 0) hx hb dX6_worth_23 (by decide) ?_
    refine va_calli (va_runV (As := [.int (nI i), .int 0]) (rest := [.ref mo, .int 10, .int (Q 11 i)]) ⟨hx, hb, hml, hown, hts⟩ (met_X6_st l D cI cZ cL mo m4 m5 m6 m7 m8 m9 th nb nq nr (enS Q) i 0 (by first | assumption | omega) (by first | assumption | omega)) (cwV 2 hts gX6_worth_X6_st rfl rfl rfl (by decide +kernel) ⟨Nat.le_of_ble_eq_true rfl, Nat.le_of_ble_eq_true rfl⟩) (gw_pvr hK hP (wc := [(mo, .inr (6, [.int th, .int (nI nb), .int (nI nq), .int (nI nr), .ref m4, .ref m5, .ref m6, .ref m7, .ref m8, .ref m9])), (m7, .inl (cI, 300, .inl (enS Q)))]) [0, 2] rfl 6 rfl rfl rfl) rfl rfl hl.1 rfl (lv_room (Nat.le_of_ble_eq_true rfl)) dX6_worth_24 ⟨Nat.zero_le _, Nat.zero_le _⟩) hS (fun _ _ z => z.elim) (fun _ z => z.elim) (fun r_7 _ t H1 locs ht hvm hw hB hz1 hk1 hS => ?_)
    have hP := gw_ro hP hk1
    generalize H1 = H at hP hS ⊢
    subst hw
    refine gw_top (y := Q 9 i) (enS_0 Q i) ?_
    refine gw_top (y := nI b) hso ?_
    refine lv_iconst (v := 0) hx hb dX6_worth_27 (by decide) ?_
    refine va_calli (va_runV (As := [.int (nI b), .int 0]) (rest := [.int 10, .int (Q 11 i)]) ⟨hx, hb, hml, hown, hts⟩ (met_X6_ro l D cI cZ cL mo m4 m5 m6 m7 m8 m9 th nb nq nr (enR Q) b 0 (by first | assumption | omega) (by first | assumption | omega)) (cwV 2 hts gX6_worth_X6_ro rfl rfl rfl (by decide +kernel) ⟨Nat.le_of_ble_eq_true rfl, Nat.le_of_ble_eq_true rfl⟩) (gw_pvr hK hP (wc := [(mo, .inr (6, [.int th, .int (nI nb), .int (nI nq), .int (nI nr), .ref m4, .ref m5, .ref m6, .ref m7, .ref m8, .ref m9])), (m5, .inl (cI, 20, .inl (enR Q)))]) [0, 1] rfl 6 rfl rfl rfl) rfl rfl hl.1 rfl (lv_room (Nat.le_of_ble_eq_true rfl)) dX6_worth_28 ⟨Nat.zero_le _, Nat.zero_le _⟩) hS (fun _ _ z => z.elim) (fun _ z => z.elim) (fun r_9 _ t H1 locs ht hvm hw hB hz1 hk1 hS => ?_)
    have hP := gw_ro hP hk1
    generalize H1 = H at hP hS ⊢
    subst hw
    refine gw_top (y := Q 1 b) (enR_0 Q b) ?_
    refine lv_isub hx hb dX6_worth_31 ?_
    refine lv_imul hx hb dX6_worth_32 ?_
    refine lv_aload_n hx hb dX6_worth_33 rfl (lv_at hl 0 rfl) ?_
    refine lv_iload_n hx hb dX6_worth_34 rfl (lv_at hl 1 rfl) ?_
    refine lv_iconst (v := 2) hx hb dX6_worth_35 (by decide) ?_
    refine va_calli (va_runV (As := [.int (nI i), .int 2]) (rest := [.int ((Q 11 i) * (10 - (Q 1 b)))]) ⟨hx, hb, hml, hown, hts⟩ (met_X6_st l D cI cZ cL mo m4 m5 m6 m7 m8 m9 th nb nq nr (enS Q) i 2 (by first | assumption | omega) (by first | assumption | omega)) (cwV 2 hts gX6_worth_X6_st rfl rfl rfl (by decide +kernel) ⟨Nat.le_of_ble_eq_true rfl, Nat.le_of_ble_eq_true rfl⟩) (gw_pvr hK hP (wc := [(mo, .inr (6, [.int th, .int (nI nb), .int (nI nq), .int (nI nr), .ref m4, .ref m5, .ref m6, .ref m7, .ref m8, .ref m9])), (m7, .inl (cI, 300, .inl (enS Q)))]) [0, 2] rfl 6 rfl rfl rfl) rfl rfl hl.1 rfl (lv_room (Nat.le_of_ble_eq_true rfl)) dX6_worth_36 ⟨Nat.zero_le _, Nat.zero_le _⟩) hS (fun _ _ z => z.elim) (fun _ z => z.elim) (fun r_11 _ t H1 locs ht hvm hw hB hz1 hk1 hS => ?_)
    have hP := gw_ro hP hk1
    generalize H1 = H at hP hS ⊢
    subst hw
    refine gw_top (y := Q 13 i) (enS_2 Q i) ?_
    refine lv_if_ne (tgt := 46) hx hb dX6_worth_39 (by decide) (fun h2 => ?_) (fun h2 => ?_)
    · skip
      refine lv_iconst (v := 3) hx hb dX6_worth_46 (by decide) ?_
      refine lv_imul hx hb dX6_worth_47 ?_
      refine lv_istore_n (lv' := [(2, .int (((Q 11 i) * (10 - (Q 1 b))) * 3)), (0, .ref mo), (1, .int (nI i))]) hx hb dX6_worth_48 rfl hl (by decide) rfl (fun ls hl => ?_)
      refine lv_aload_n hx hb dX6_worth_49 rfl (lv_at hl 1 rfl) ?_
      refine lv_iload_n hx hb dX6_worth_50 rfl (lv_at hl 2 rfl) ?_
      refine lv_iconst (v := 4) hx hb dX6_worth_51 (by decide) ?_
      refine va_calli (va_runV (As := [.int (nI i), .int 4]) (rest := []) ⟨hx, hb, hml, hown, hts⟩ (met_X6_st l D cI cZ cL mo m4 m5 m6 m7 m8 m9 th nb nq nr (enS Q) i 4 (by first | assumption | omega) (by first | assumption | omega)) (cwV 2 hts gX6_worth_X6_st rfl rfl rfl (by decide +kernel) ⟨Nat.le_of_ble_eq_true rfl, Nat.le_of_ble_eq_true rfl⟩) (gw_pvr hK hP (wc := [(mo, .inr (6, [.int th, .int (nI nb), .int (nI nq), .int (nI nr), .ref m4, .ref m5, .ref m6, .ref m7, .ref m8, .ref m9])), (m7, .inl (cI, 300, .inl (enS Q)))]) [0, 2] rfl 6 rfl rfl rfl) rfl rfl hl.1 rfl (lv_room (Nat.le_of_ble_eq_true rfl)) dX6_worth_52 ⟨Nat.zero_le _, Nat.zero_le _⟩) hS (fun _ _ z => z.elim) (fun _ z => z.elim) (fun r_14 _ t H1 locs ht hvm hw hB hz1 hk1 hS => ?_)
      have hP := gw_ro hP hk1
      generalize H1 = H at hP hS ⊢
      subst hw
      refine gw_top (y := Q 12 i) (enS_4 Q i) ?_
      refine lv_iconst (v := 1) hx hb dX6_worth_55 (by decide) ?_
      refine lv_icmp_ne (tgt := 65) hx hb dX6_worth_56 (by decide) (fun h3 => ?_) (fun h3 => ?_)
      · skip
        refine lv_iload_n hx hb dX6_worth_65 rfl (lv_at hl 0 rfl) ?_
        exact W.iret (v := ((Q 11 i) * (10 - (Q 1 b))) * 3) hx hb hr (fun t ht hW => ⟨⟨_, (), rfl, (gW_eq hgr (hz i) h1 (by first | exact Or.inl ⟨h2, rfl⟩ | exact Or.inr ⟨h2, rfl⟩) (by first | exact Or.inl ⟨h3, rfl⟩ | exact Or.inr ⟨h3, rfl⟩)), trivial⟩, hS.F ht⟩) hS.2.2 dX6_worth_66
      · skip
        refine lv_iload_n hx hb dX6_worth_59 rfl (lv_at hl 0 rfl) ?_
        refine lv_iconst (v := 5) hx hb dX6_worth_60 (by decide) ?_
        refine lv_idiv hx hb dX6_worth_61 (by decide) ?_
        refine lv_goto (tgt := 66) hx hb dX6_worth_62 (by decide) ?_
        exact W.iret (v := (((Q 11 i) * (10 - (Q 1 b))) * 3) / 5) hx hb hr (fun t ht hW => ⟨⟨_, (), rfl, (gW_eq hgr (hz i) h1 (by first | exact Or.inl ⟨h2, rfl⟩ | exact Or.inr ⟨h2, rfl⟩) (by first | exact Or.inl ⟨h3, rfl⟩ | exact Or.inr ⟨h3, rfl⟩)), trivial⟩, hS.F ht⟩) hS.2.2 dX6_worth_66
    · skip
      refine lv_iconst (v := 1) hx hb dX6_worth_42 (by decide) ?_
      refine lv_goto (tgt := 47) hx hb dX6_worth_43 (by decide) ?_
      refine lv_imul hx hb dX6_worth_47 ?_
      refine lv_istore_n (lv' := [(2, .int (((Q 11 i) * (10 - (Q 1 b))) * 1)), (0, .ref mo), (1, .int (nI i))]) hx hb dX6_worth_48 rfl hl (by decide) rfl (fun ls hl => ?_)
      refine lv_aload_n hx hb dX6_worth_49 rfl (lv_at hl 1 rfl) ?_
      refine lv_iload_n hx hb dX6_worth_50 rfl (lv_at hl 2 rfl) ?_
      refine lv_iconst (v := 4) hx hb dX6_worth_51 (by decide) ?_
      refine va_calli (va_runV (As := [.int (nI i), .int 4]) (rest := []) ⟨hx, hb, hml, hown, hts⟩ (met_X6_st l D cI cZ cL mo m4 m5 m6 m7 m8 m9 th nb nq nr (enS Q) i 4 (by first | assumption | omega) (by first | assumption | omega)) (cwV 2 hts gX6_worth_X6_st rfl rfl rfl (by decide +kernel) ⟨Nat.le_of_ble_eq_true rfl, Nat.le_of_ble_eq_true rfl⟩) (gw_pvr hK hP (wc := [(mo, .inr (6, [.int th, .int (nI nb), .int (nI nq), .int (nI nr), .ref m4, .ref m5, .ref m6, .ref m7, .ref m8, .ref m9])), (m7, .inl (cI, 300, .inl (enS Q)))]) [0, 2] rfl 6 rfl rfl rfl) rfl rfl hl.1 rfl (lv_room (Nat.le_of_ble_eq_true rfl)) dX6_worth_52 ⟨Nat.zero_le _, Nat.zero_le _⟩) hS (fun _ _ z => z.elim) (fun _ z => z.elim) (fun r_17 _ t H1 locs ht hvm hw hB hz1 hk1 hS => ?_)
      have hP := gw_ro hP hk1
      generalize H1 = H at hP hS ⊢
      subst hw
      refine gw_top (y := Q 12 i) (enS_4 Q i) ?_
      refine lv_iconst (v := 1) hx hb dX6_worth_55 (by decide) ?_
      refine lv_icmp_ne (tgt := 65) hx hb dX6_worth_56 (by decide) (fun h3 => ?_) (fun h3 => ?_)
      · skip
        refine lv_iload_n hx hb dX6_worth_65 rfl (lv_at hl 0 rfl) ?_
        exact W.iret (v := ((Q 11 i) * (10 - (Q 1 b))) * 1) hx hb hr (fun t ht hW => ⟨⟨_, (), rfl, (gW_eq hgr (hz i) h1 (by first | exact Or.inl ⟨h2, rfl⟩ | exact Or.inr ⟨h2, rfl⟩) (by first | exact Or.inl ⟨h3, rfl⟩ | exact Or.inr ⟨h3, rfl⟩)), trivial⟩, hS.F ht⟩) hS.2.2 dX6_worth_66
      · skip
        refine lv_iload_n hx hb dX6_worth_59 rfl (lv_at hl 0 rfl) ?_
        refine lv_iconst (v := 5) hx hb dX6_worth_60 (by decide) ?_
        refine lv_idiv hx hb dX6_worth_61 (by decide) ?_
        refine lv_goto (tgt := 66) hx hb dX6_worth_62 (by decide) ?_
        exact W.iret (v := (((Q 11 i) * (10 - (Q 1 b))) * 1) / 5) hx hb hr (fun t ht hW => ⟨⟨_, (), rfl, (gW_eq hgr (hz i) h1 (by first | exact Or.inl ⟨h2, rfl⟩ | exact Or.inr ⟨h2, rfl⟩) (by first | exact Or.inl ⟨h3, rfl⟩ | exact Or.inr ⟨h3, rfl⟩)), trivial⟩, hS.F ht⟩) hS.2.2 dX6_worth_66
  · skip
    refine lv_iconst (v := 0) hx hb dX6_worth_10 (by decide) ?_
    exact W.iret (v := 0) hx hb hr (fun t ht hW => ⟨⟨_, (), rfl, (by simp [gWorth, h1]), trivial⟩, hS.F ht⟩) hS.2.2 dX6_worth_11

theorem wc_X6_isAway_X6 : ∀ w ∈ u_ws RX6 TX6 10, w ∈ wsX6_isAway := by decide +kernel
theorem wd_X6_isAway_1 : (.fieldLink RX6 22 "GritWheelsModel" "boats" "[I" : Cond) ∈ wsX6_isAway := by decide +kernel
set_option maxHeartbeats 4000000 in
set_option maxRecDepth 100000 in
theorem met_X6_isAway (l : Launch) (D : va_G) (cI cZ cL : ClassId) (mo : Nat) (m4 : Nat) (m5 : Nat) (m6 : Nat) (m7 : Nat) (m8 : Nat) (m9 : Nat) (th : Int32) (nb : Nat) (nq : Nat) (nr : Nat) (ca : Nat → Int32) (we : Nat → Int32) (r : Nat) (hr2 : r < 3) : Met l yX6_isAway wsX6_isAway ({ frames := 0, cells := 0, slots := 0, locals := 0 }) (gPr [.ref mo, .int (nI r)] D [(mo, .inr (6, [.int th, .int (nI nb), .int (nI nq), .int (nI nr), .ref m4, .ref m5, .ref m6, .ref m7, .ref m8, .ref m9])), (m8, .inl (cI, 6, .inl (enB ca we)))] (gT cI cZ cL)) (va_Qi (fun (zr : Int32) (_ : Unit) => (zr = 1 ∧ (¬ we r = -1)) ∨ (zr = 0 ∧ ¬ (¬ we r = -1))) (fun _ _ => True) gN) 0 0 gN := by
  refine Met.ofW (cc := cX6_isAway) (maxL := 2) (ret := (some .boolean)) (by decide +kernel) rfl ?_
  intro p e s m args below meth c s₁ B hml hv
  obtain ⟨rfl, hP, hK⟩ := hv
  have hx := B.exec
  have hb := B.bytes
  have hr := B.returns
  have hts := atoms_spec (ws := wsX6_isAway) B.pre
  have hown : s.vm.findClass RX6 = some m.cls := findClass_of_methodNamed B.named
  have hlocks := B.notSynchronized
  have hS : va_S gN s.heap s.heap [] := va_S.rf
  have hP : va_P D vwCl [(mo, .inr (6, [.int th, .int (nI nb), .int (nI nq), .int (nI nr), .ref m4, .ref m5, .ref m6, .ref m7, .ref m8, .ref m9])), (m8, .inl (cI, 6, .inl (enB ca we)))] s.heap := hP
  have hl := lv_entry ([.ref mo, .int (nI r)]) (n := 2) (Nat.le_of_ble_eq_true rfl)
  rw [lg_entry_eq]
  generalize (lg_sl ([.ref mo, .int (nI r)]) ++ List.replicate (2 - (lg_sl ([.ref mo, .int (nI r)])).length) Slot.unset).toArray = ls at hl ⊢
  have hl : lv_has ls 2 [(0, .ref mo), (1, .int (nI r))] := hl
  refine lv_aload_n hx hb dX6_isAway_0 rfl (lv_at hl 0 rfl) ?_
  refine va_get (D := D) (ci := 6) (v := .ref m8) (C := RX6) (T := TX6) (N := 10) hx hb hts wc_X6_isAway_X6 hown hK hP 0 rfl rfl 8 (by decide) (hts _ wd_X6_isAway_1) (fun _ h9 => h9) rfl dX6_isAway_1 ?_
  refine lv_iconst (v := 2) hx hb dX6_isAway_4 (by decide) ?_
  refine lv_iload_n hx hb dX6_isAway_5 rfl (lv_at hl 1 rfl) ?_
  refine lv_imul hx hb dX6_isAway_6 ?_
  refine gw_top (y := nI (2 * r)) (nI_mul 2 r) ?_
  refine lv_iconst (v := 1) hx hb dX6_isAway_7 (by decide) ?_
  refine lv_iadd hx hb dX6_isAway_8 ?_
  refine gw_top (y := nI ((2 * r) + 1)) (nI_add (2 * r) 1) ?_
  refine gw_iald hx hb hK hP 1 0 (k := (2 * r) + 1) rfl rfl (by omega) (by decide) dX6_isAway_9 ?_
  refine gw_top (y := we r) (enB_1 ca we r) ?_
  refine lv_iconst (v := (-1)) hx hb dX6_isAway_10 (by decide) ?_
  refine lv_icmp_eq (tgt := 18) hx hb dX6_isAway_11 (by decide) (fun h1 => ?_) (fun h1 => ?_)
  · skip
    refine lv_iconst (v := 0) hx hb dX6_isAway_18 (by decide) ?_
    exact W.zret (v := 0) hx hb hr rfl (fun t ht hW => ⟨⟨_, (), rfl, Or.inr ⟨rfl, (fun hh => hh h1)⟩, trivial⟩, hS.F ht⟩) hS.2.2 dX6_isAway_19
  · skip
    refine lv_iconst (v := 1) hx hb dX6_isAway_14 (by decide) ?_
    refine lv_goto (tgt := 19) hx hb dX6_isAway_15 (by decide) ?_
    exact W.zret (v := 1) hx hb hr rfl (fun t ht hW => ⟨⟨_, (), rfl, Or.inl ⟨rfl, h1⟩, trivial⟩, hS.F ht⟩) hS.2.2 dX6_isAway_19

set_option maxHeartbeats 4000000 in
set_option maxRecDepth 100000 in
theorem met_X6_isUpon (l : Launch) (D : va_G) (cI cZ cL : ClassId) (mo : Nat) (m4 : Nat) (m5 : Nat) (m6 : Nat) (m7 : Nat) (m8 : Nat) (m9 : Nat) (th : Int32) (nb : Nat) (nq : Nat) (nr : Nat) (Q : Nat → Nat → Int32) (i : Nat) (r : Nat) (hi : i < 60) : Met l yX6_isUpon wsX6_isUpon ({ frames := 1, cells := 0, slots := 0, locals := 22 }) (gPr [.ref mo, .int (nI i), .int (nI r)] D [(mo, .inr (6, [.int th, .int (nI nb), .int (nI nq), .int (nI nr), .ref m4, .ref m5, .ref m6, .ref m7, .ref m8, .ref m9])), (m7, .inl (cI, 300, .inl (enS Q)))] (gT cI cZ cL)) (va_Qi (fun (zr : Int32) (_ : Unit) => (zr = 1 ∧ (Q 13 i = 2 ∧ Q 14 i = nI r)) ∨ (zr = 0 ∧ ¬ (Q 13 i = 2 ∧ Q 14 i = nI r))) (fun _ _ => True) gN) 0 0 gN := by
  refine Met.ofW (cc := cX6_isUpon) (maxL := 3) (ret := (some .boolean)) (by decide +kernel) rfl ?_
  intro p e s m args below meth c s₁ B hml hv
  obtain ⟨rfl, hP, hK⟩ := hv
  have hx := B.exec
  have hb := B.bytes
  have hr := B.returns
  have hts := atoms_spec (ws := wsX6_isUpon) B.pre
  have hown : s.vm.findClass RX6 = some m.cls := findClass_of_methodNamed B.named
  have hlocks := B.notSynchronized
  have hS : va_S gN s.heap s.heap [] := va_S.rf
  have hP : va_P D vwCl [(mo, .inr (6, [.int th, .int (nI nb), .int (nI nq), .int (nI nr), .ref m4, .ref m5, .ref m6, .ref m7, .ref m8, .ref m9])), (m7, .inl (cI, 300, .inl (enS Q)))] s.heap := hP
  have hl := lv_entry ([.ref mo, .int (nI i), .int (nI r)]) (n := 3) (Nat.le_of_ble_eq_true rfl)
  rw [lg_entry_eq]
  generalize (lg_sl ([.ref mo, .int (nI i), .int (nI r)]) ++ List.replicate (3 - (lg_sl ([.ref mo, .int (nI i), .int (nI r)])).length) Slot.unset).toArray = ls at hl ⊢
  have hl : lv_has ls 3 [(0, .ref mo), (1, .int (nI i)), (2, .int (nI r))] := hl
  refine lv_aload_n hx hb dX6_isUpon_0 rfl (lv_at hl 0 rfl) ?_
  refine lv_iload_n hx hb dX6_isUpon_1 rfl (lv_at hl 1 rfl) ?_
  refine lv_iconst (v := 2) hx hb dX6_isUpon_2 (by decide) ?_
  refine va_calli (va_runV (As := [.int (nI i), .int 2]) (rest := []) ⟨hx, hb, hml, hown, hts⟩ (met_X6_st l D cI cZ cL mo m4 m5 m6 m7 m8 m9 th nb nq nr (enS Q) i 2 (by first | assumption | omega) (by first | assumption | omega)) (cwV 2 hts gX6_isUpon_X6_st rfl rfl rfl (by decide +kernel) ⟨Nat.le_of_ble_eq_true rfl, Nat.le_of_ble_eq_true rfl⟩) (gw_pvr hK hP (wc := [(mo, .inr (6, [.int th, .int (nI nb), .int (nI nq), .int (nI nr), .ref m4, .ref m5, .ref m6, .ref m7, .ref m8, .ref m9])), (m7, .inl (cI, 300, .inl (enS Q)))]) [0, 1] rfl 6 rfl rfl rfl) rfl rfl hl.1 rfl (lv_room (Nat.le_of_ble_eq_true rfl)) dX6_isUpon_3 ⟨Nat.zero_le _, Nat.zero_le _⟩) hS (fun _ _ z => z.elim) (fun _ z => z.elim) (fun r_2 _ t H1 locs ht hvm hw hB hz1 hk1 hS => ?_)
  have hP := gw_ro hP hk1
  generalize H1 = H at hP hS ⊢
  subst hw
  refine gw_top (y := Q 13 i) (enS_2 Q i) ?_
  refine lv_iconst (v := 2) hx hb dX6_isUpon_6 (by decide) ?_
  refine lv_icmp_ne (tgt := 24) hx hb dX6_isUpon_7 (by decide) (fun h1 => ?_) (fun h1 => ?_)
  · skip
    refine lv_iconst (v := 0) hx hb dX6_isUpon_24 (by decide) ?_
    exact W.zret (v := 0) hx hb hr rfl (fun t ht hW => ⟨⟨_, (), rfl, Or.inr ⟨rfl, (fun hh => by first | exact h1 hh.1 | exact h2 hh.2)⟩, trivial⟩, hS.F ht⟩) hS.2.2 dX6_isUpon_25
  · skip
    refine lv_aload_n hx hb dX6_isUpon_10 rfl (lv_at hl 0 rfl) ?_
    refine lv_iload_n hx hb dX6_isUpon_11 rfl (lv_at hl 1 rfl) ?_
    refine lv_iconst (v := 3) hx hb dX6_isUpon_12 (by decide) ?_
    refine va_calli (va_runV (As := [.int (nI i), .int 3]) (rest := []) ⟨hx, hb, hml, hown, hts⟩ (met_X6_st l D cI cZ cL mo m4 m5 m6 m7 m8 m9 th nb nq nr (enS Q) i 3 (by first | assumption | omega) (by first | assumption | omega)) (cwV 2 hts gX6_isUpon_X6_st rfl rfl rfl (by decide +kernel) ⟨Nat.le_of_ble_eq_true rfl, Nat.le_of_ble_eq_true rfl⟩) (gw_pvr hK hP (wc := [(mo, .inr (6, [.int th, .int (nI nb), .int (nI nq), .int (nI nr), .ref m4, .ref m5, .ref m6, .ref m7, .ref m8, .ref m9])), (m7, .inl (cI, 300, .inl (enS Q)))]) [0, 1] rfl 6 rfl rfl rfl) rfl rfl hl.1 rfl (lv_room (Nat.le_of_ble_eq_true rfl)) dX6_isUpon_13 ⟨Nat.zero_le _, Nat.zero_le _⟩) hS (fun _ _ z => z.elim) (fun _ z => z.elim) (fun r_5 _ t H1 locs ht hvm hw hB hz1 hk1 hS => ?_)
    have hP := gw_ro hP hk1
    generalize H1 = H at hP hS ⊢
    subst hw
    refine gw_top (y := Q 14 i) (enS_3 Q i) ?_
    refine lv_iload_n hx hb dX6_isUpon_16 rfl (lv_at hl 2 rfl) ?_
    refine lv_icmp_ne (tgt := 24) hx hb dX6_isUpon_17 (by decide) (fun h2 => ?_) (fun h2 => ?_)
    · skip
      refine lv_iconst (v := 0) hx hb dX6_isUpon_24 (by decide) ?_
      exact W.zret (v := 0) hx hb hr rfl (fun t ht hW => ⟨⟨_, (), rfl, Or.inr ⟨rfl, (fun hh => by first | exact h1 hh.1 | exact h2 hh.2)⟩, trivial⟩, hS.F ht⟩) hS.2.2 dX6_isUpon_25
    · skip
      refine lv_iconst (v := 1) hx hb dX6_isUpon_20 (by decide) ?_
      refine lv_goto (tgt := 25) hx hb dX6_isUpon_21 (by decide) ?_
      exact W.zret (v := 1) hx hb hr rfl (fun t ht hW => ⟨⟨_, (), rfl, Or.inl ⟨rfl, ⟨h1, h2⟩⟩, trivial⟩, hS.F ht⟩) hS.2.2 dX6_isUpon_25

theorem wc_X6_upon_X6 : ∀ w ∈ u_ws RX6 TX6 10, w ∈ wsX6_upon := by decide +kernel
theorem wd_X6_upon_1 : (.fieldLink RX6 25 "GritWheelsModel" "numbers" "[I" : Cond) ∈ wsX6_upon := by decide +kernel
set_option maxHeartbeats 4000000 in
set_option maxRecDepth 100000 in
theorem met_X6_upon (l : Launch) (D : va_G) (cI cZ cL : ClassId) (mo : Nat) (m4 : Nat) (m5 : Nat) (m6 : Nat) (m7 : Nat) (m8 : Nat) (m9 : Nat) (th : Int32) (nb : Nat) (nq : Nat) (nr : Nat) (Q : Nat → Nat → Int32) (day : Nat) (co : Int32) (nw : Nat) (r : Nat) (hnw : nw ≤ 60) (hr2 : r < 3) (hcar : ∀ w, w < nw → Q 14 w = -1 ∨ Q 13 w = 2) : Met l yX6_upon wsX6_upon ({ frames := 2, cells := 0, slots := 0, locals := 44 }) (gPr [.ref mo, .int (nI r)] D [(mo, .inr (6, [.int th, .int (nI nb), .int (nI nq), .int (nI nr), .ref m4, .ref m5, .ref m6, .ref m7, .ref m8, .ref m9])), (m7, .inl (cI, 300, .inl (enS Q))), (m9, .inl (cI, 3, .inl (enN day co nw)))] (gT cI cZ cL)) (va_Qi (fun (zr : Int32) (_ : Unit) => zr = gS (fun j => if Q 14 j = nI r then 1 else 0) nw 0 0) (fun _ _ => True) gN) 0 0 gN := by
  refine Met.ofW (cc := cX6_upon) (maxL := 4) (ret := (some .int)) (by decide +kernel) rfl ?_
  intro p e s m args below meth c s₁ B hml hv
  obtain ⟨rfl, hP, hK⟩ := hv
  have hx := B.exec
  have hb := B.bytes
  have hr := B.returns
  have hts := atoms_spec (ws := wsX6_upon) B.pre
  have hown : s.vm.findClass RX6 = some m.cls := findClass_of_methodNamed B.named
  have hlocks := B.notSynchronized
  have hS : va_S gN s.heap s.heap [] := va_S.rf
  have hP : va_P D vwCl [(mo, .inr (6, [.int th, .int (nI nb), .int (nI nq), .int (nI nr), .ref m4, .ref m5, .ref m6, .ref m7, .ref m8, .ref m9])), (m7, .inl (cI, 300, .inl (enS Q))), (m9, .inl (cI, 3, .inl (enN day co nw)))] s.heap := hP
  have hl := lv_entry ([.ref mo, .int (nI r)]) (n := 4) (Nat.le_of_ble_eq_true rfl)
  rw [lg_entry_eq]
  generalize (lg_sl ([.ref mo, .int (nI r)]) ++ List.replicate (4 - (lg_sl ([.ref mo, .int (nI r)])).length) Slot.unset).toArray = ls at hl ⊢
  have hl : lv_has ls 4 [(0, .ref mo), (1, .int (nI r))] := hl
  refine lv_iconst (v := 0) hx hb dX6_upon_0 (by decide) ?_
  refine lv_istore_n (lv' := [(2, .int 0), (0, .ref mo), (1, .int (nI r))]) hx hb dX6_upon_1 rfl hl (by decide) rfl (fun ls hl => ?_)
  refine lv_iconst (v := 0) hx hb dX6_upon_2 (by decide) ?_
  refine lv_istore_n (lv' := [(3, .int 0), (2, .int 0), (0, .ref mo), (1, .int (nI r))]) hx hb dX6_upon_3 rfl hl (by decide) rfl (fun ls hl => ?_)
  refine gw_loop (fun (zz : Nat × Nat × Int32) H locs ls => match zz with | (k, i, acc) => va_P D vwCl [(mo, .inr (6, [.int th, .int (nI nb), .int (nI nq), .int (nI nr), .ref m4, .ref m5, .ref m6, .ref m7, .ref m8, .ref m9])), (m7, .inl (cI, 300, .inl (enS Q))), (m9, .inl (cI, 3, .inl (enN day co nw)))] H ∧ va_S gN s.heap H locs ∧ lv_has ls 4 [(3, .int (nI i)), (2, .int acc), (0, .ref mo), (1, .int (nI r))] ∧ (i + k = nw) ∧ (gS (fun j => if Q 14 j = nI r then 1 else 0) k i acc = gS (fun j => if Q 14 j = nI r then 1 else 0) nw 0 0)) (fun (zz : Nat × Nat × Int32) => match zz with | (k, i, acc) => k) (nw, 0, 0) ⟨hP, hS, lv_sub hl [0, 1, 2, 3] rfl, (by omega), rfl⟩ ?_
  rintro ⟨k, i, acc⟩ ih H locs ls ⟨hP, hS, hl, hin, hF⟩
  have hP : va_P D vwCl [(mo, .inr (6, [.int th, .int (nI nb), .int (nI nq), .int (nI nr), .ref m4, .ref m5, .ref m6, .ref m7, .ref m8, .ref m9])), (m7, .inl (cI, 300, .inl (enS Q))), (m9, .inl (cI, 3, .inl (enN day co nw)))] H := hP
  have hl : lv_has ls 4 [(3, .int (nI i)), (2, .int acc), (0, .ref mo), (1, .int (nI r))] := hl
  have hin : i + k = nw := hin
  have hF : gS (fun j => if Q 14 j = nI r then 1 else 0) k i acc = gS (fun j => if Q 14 j = nI r then 1 else 0) nw 0 0 := hF
  have ih4 := ih
  refine lv_iload_n hx hb dX6_upon_4 rfl (lv_at hl 0 rfl) ?_
  refine lv_aload_n hx hb dX6_upon_5 rfl (lv_at hl 2 rfl) ?_
  refine va_get (D := D) (ci := 6) (v := .ref m9) (C := RX6) (T := TX6) (N := 10) hx hb hts wc_X6_upon_X6 hown hK hP 0 rfl rfl 9 (by decide) (hts _ wd_X6_upon_1) (fun _ h9 => h9) rfl dX6_upon_6 ?_
  refine lv_iconst (v := 2) hx hb dX6_upon_9 (by decide) ?_
  refine gw_top (y := nI 2) rfl ?_
  refine gw_iald hx hb hK hP 2 0 (k := 2) rfl rfl (by omega) (by decide) dX6_upon_10 ?_
  refine gw_top (y := nI nw) rfl ?_
  refine lv_icmp_ge (tgt := 37) hx hb dX6_upon_11 (by decide) (fun c => ?_) (fun c => ?_)
  · skip
    have hk0 : k = 0 := by have := gw_ge (by omega) (by omega) c; omega
    subst hk0
    refine lv_iload_n hx hb dX6_upon_37 rfl (lv_at hl 1 rfl) ?_
    exact W.iret (v := acc) hx hb hr (fun t ht hW => ⟨⟨_, (), rfl, hF, trivial⟩, hS.F ht⟩) hS.2.2 dX6_upon_38
  · skip
    have hi : i < nw := gw_lt (by omega) (by omega) c
    obtain ⟨k, rfl⟩ : ∃ k2, k = k2 + 1 := ⟨k - 1, by omega⟩
    refine lv_iload_n hx hb dX6_upon_14 rfl (lv_at hl 1 rfl) ?_
    refine lv_aload_n hx hb dX6_upon_15 rfl (lv_at hl 2 rfl) ?_
    refine lv_iload_n hx hb dX6_upon_16 rfl (lv_at hl 0 rfl) ?_
    refine lv_iload_n hx hb dX6_upon_17 rfl (lv_at hl 3 rfl) ?_
    refine va_calli (va_runV (As := [.int (nI i), .int (nI r)]) (rest := [.int acc]) ⟨hx, hb, hml, hown, hts⟩ (met_X6_isUpon l D cI cZ cL mo m4 m5 m6 m7 m8 m9 th nb nq nr Q i r (by first | assumption | omega)) (cwV 2 hts gX6_upon_X6_isUpon rfl rfl rfl (by decide +kernel) ⟨Nat.le_of_ble_eq_true rfl, Nat.le_of_ble_eq_true rfl⟩) (gw_pvr hK hP (wc := [(mo, .inr (6, [.int th, .int (nI nb), .int (nI nq), .int (nI nr), .ref m4, .ref m5, .ref m6, .ref m7, .ref m8, .ref m9])), (m7, .inl (cI, 300, .inl (enS Q)))]) [0, 1] rfl 6 rfl rfl rfl) rfl rfl hl.1 rfl (lv_room (Nat.le_of_ble_eq_true rfl)) dX6_upon_18 ⟨Nat.zero_le _, Nat.zero_le _⟩) hS (fun _ _ z => z.elim) (fun _ z => z.elim) (fun r_3 _ t H1 locs ht hvm hw hB hz1 hk1 hS => ?_)
    have hP := gw_ro hP hk1
    generalize H1 = H at hP hS ⊢
    rcases hw with ⟨rfl, hc⟩ | ⟨rfl, hc⟩
    · skip
      have hcc : Q 14 i = nI r := hc.2
      refine lv_if_eq (tgt := 28) hx hb dX6_upon_21 (by decide) (fun c_5 => False.elim (by revert c_5; decide)) (fun _ => ?_)
      refine lv_iconst (v := 1) hx hb dX6_upon_24 (by decide) ?_
      refine lv_goto (tgt := 29) hx hb dX6_upon_25 (by decide) ?_
      refine lv_iadd hx hb dX6_upon_29 ?_
      refine lv_istore_n (lv' := [(2, .int (acc + 1)), (3, .int (nI i)), (0, .ref mo), (1, .int (nI r))]) hx hb dX6_upon_30 rfl hl (by decide) rfl (fun ls hl => ?_)
      refine lv_iinc (v := nI (i + 1)) (lv' := [(3, .int (nI (i + 1))), (2, .int (acc + 1)), (0, .ref mo), (1, .int (nI r))]) hx hb dX6_upon_31 hl (k := 1) rfl (nI_add i 1) (by decide) rfl (fun ls hl => ?_)
      refine lv_goto (tgt := 4) hx hb dX6_upon_34 (by decide) ?_
      exact ih4 (k, i + 1, acc + 1) H locs ls (by dsimp only; omega) ⟨hP, hS, lv_sub hl [0, 1, 2, 3] rfl, (by omega), (by first | exact hF | (rw [← hF]; simp [gS, hcc]) | (rw [← hF]; simp [gS, *]))⟩
    · skip
      have hcc : ¬ Q 14 i = nI r := fun hh => hc ⟨((hcar i hi).resolve_left (by rw [hh]; exact gw_nIm1 (by omega))), hh⟩
      refine lv_if_eq (tgt := 28) hx hb dX6_upon_21 (by decide) (fun _ => ?_) (fun c_6 => False.elim (by revert c_6; decide))
      refine lv_iconst (v := 0) hx hb dX6_upon_28 (by decide) ?_
      refine lv_iadd hx hb dX6_upon_29 ?_
      refine lv_istore_n (lv' := [(2, .int (acc + 0)), (3, .int (nI i)), (0, .ref mo), (1, .int (nI r))]) hx hb dX6_upon_30 rfl hl (by decide) rfl (fun ls hl => ?_)
      refine lv_iinc (v := nI (i + 1)) (lv' := [(3, .int (nI (i + 1))), (2, .int (acc + 0)), (0, .ref mo), (1, .int (nI r))]) hx hb dX6_upon_31 hl (k := 1) rfl (nI_add i 1) (by decide) rfl (fun ls hl => ?_)
      refine lv_goto (tgt := 4) hx hb dX6_upon_34 (by decide) ?_
      exact ih4 (k, i + 1, acc + 0) H locs ls (by dsimp only; omega) ⟨hP, hS, lv_sub hl [0, 1, 2, 3] rfl, (by omega), (by first | exact hF | (rw [← hF]; simp [gS, hcc]) | (rw [← hF]; simp [gS, *]))⟩

theorem wc_X6_allWorth_X6 : ∀ w ∈ u_ws RX6 TX6 10, w ∈ wsX6_allWorth := by decide +kernel
theorem wd_X6_allWorth_1 : (.fieldLink RX6 25 "GritWheelsModel" "numbers" "[I" : Cond) ∈ wsX6_allWorth := by decide +kernel
set_option maxHeartbeats 4000000 in
set_option maxRecDepth 100000 in
theorem met_X6_allWorth (l : Launch) (D : va_G) (cI cZ cL : ClassId) (mo : Nat) (m4 : Nat) (m5 : Nat) (m6 : Nat) (m7 : Nat) (m8 : Nat) (m9 : Nat) (th : Int32) (nb : Nat) (nq : Nat) (nr : Nat) (Q : Nat → Nat → Int32) (day : Nat) (co : Int32) (nw : Nat) (hnw : nw ≤ 60) (hnb : nb ≤ 5) (hof : gOf Q nb nw) (hz : ∀ j, Q 12 j = 0 ∨ Q 12 j = 1) : Met l yX6_allWorth wsX6_allWorth ({ frames := 2, cells := 0, slots := 0, locals := 44 }) (gPr [.ref mo] D [(mo, .inr (6, [.int th, .int (nI nb), .int (nI nq), .int (nI nr), .ref m4, .ref m5, .ref m6, .ref m7, .ref m8, .ref m9])), (m5, .inl (cI, 20, .inl (enR Q))), (m7, .inl (cI, 300, .inl (enS Q))), (m9, .inl (cI, 3, .inl (enN day co nw)))] (gT cI cZ cL)) (va_Qi (fun (zr : Int32) (_ : Unit) => zr = gAll Q nw) (fun _ _ => True) gN) 0 0 gN := by
  refine Met.ofW (cc := cX6_allWorth) (maxL := 3) (ret := (some .int)) (by decide +kernel) rfl ?_
  intro p e s m args below meth c s₁ B hml hv
  obtain ⟨rfl, hP, hK⟩ := hv
  have hx := B.exec
  have hb := B.bytes
  have hr := B.returns
  have hts := atoms_spec (ws := wsX6_allWorth) B.pre
  have hown : s.vm.findClass RX6 = some m.cls := findClass_of_methodNamed B.named
  have hlocks := B.notSynchronized
  have hS : va_S gN s.heap s.heap [] := va_S.rf
  have hP : va_P D vwCl [(mo, .inr (6, [.int th, .int (nI nb), .int (nI nq), .int (nI nr), .ref m4, .ref m5, .ref m6, .ref m7, .ref m8, .ref m9])), (m5, .inl (cI, 20, .inl (enR Q))), (m7, .inl (cI, 300, .inl (enS Q))), (m9, .inl (cI, 3, .inl (enN day co nw)))] s.heap := hP
  have hl := lv_entry ([.ref mo]) (n := 3) (Nat.le_of_ble_eq_true rfl)
  rw [lg_entry_eq]
  generalize (lg_sl ([.ref mo]) ++ List.replicate (3 - (lg_sl ([.ref mo])).length) Slot.unset).toArray = ls at hl ⊢
  have hl : lv_has ls 3 [(0, .ref mo)] := hl
  refine lv_iconst (v := 0) hx hb dX6_allWorth_0 (by decide) ?_
  refine lv_istore_n (lv' := [(1, .int 0), (0, .ref mo)]) hx hb dX6_allWorth_1 rfl hl (by decide) rfl (fun ls hl => ?_)
  refine lv_iconst (v := 0) hx hb dX6_allWorth_2 (by decide) ?_
  refine lv_istore_n (lv' := [(2, .int 0), (1, .int 0), (0, .ref mo)]) hx hb dX6_allWorth_3 rfl hl (by decide) rfl (fun ls hl => ?_)
  refine gw_loop (fun (zz : Nat × Nat × Int32) H locs ls => match zz with | (k, i, acc) => va_P D vwCl [(mo, .inr (6, [.int th, .int (nI nb), .int (nI nq), .int (nI nr), .ref m4, .ref m5, .ref m6, .ref m7, .ref m8, .ref m9])), (m5, .inl (cI, 20, .inl (enR Q))), (m7, .inl (cI, 300, .inl (enS Q))), (m9, .inl (cI, 3, .inl (enN day co nw)))] H ∧ va_S gN s.heap H locs ∧ lv_has ls 3 [(2, .int (nI i)), (1, .int acc), (0, .ref mo)] ∧ (i + k = nw) ∧ (gS (fun j => gWorth (Q 11 j) (Q 10 j) (Q 13 j) (Q 12 j)) k i acc = gS (fun j => gWorth (Q 11 j) (Q 10 j) (Q 13 j) (Q 12 j)) nw 0 0)) (fun (zz : Nat × Nat × Int32) => match zz with | (k, i, acc) => k) (nw, 0, 0) ⟨hP, hS, lv_sub hl [0, 1, 2] rfl, (by omega), rfl⟩ ?_
  rintro ⟨k, i, acc⟩ ih H locs ls ⟨hP, hS, hl, hin, hF⟩
  have hP : va_P D vwCl [(mo, .inr (6, [.int th, .int (nI nb), .int (nI nq), .int (nI nr), .ref m4, .ref m5, .ref m6, .ref m7, .ref m8, .ref m9])), (m5, .inl (cI, 20, .inl (enR Q))), (m7, .inl (cI, 300, .inl (enS Q))), (m9, .inl (cI, 3, .inl (enN day co nw)))] H := hP
  have hl : lv_has ls 3 [(2, .int (nI i)), (1, .int acc), (0, .ref mo)] := hl
  have hin : i + k = nw := hin
  have hF : gS (fun j => gWorth (Q 11 j) (Q 10 j) (Q 13 j) (Q 12 j)) k i acc = gS (fun j => gWorth (Q 11 j) (Q 10 j) (Q 13 j) (Q 12 j)) nw 0 0 := hF
  have ih4 := ih
  refine lv_iload_n hx hb dX6_allWorth_4 rfl (lv_at hl 0 rfl) ?_
  refine lv_aload_n hx hb dX6_allWorth_5 rfl (lv_at hl 2 rfl) ?_
  refine va_get (D := D) (ci := 6) (v := .ref m9) (C := RX6) (T := TX6) (N := 10) hx hb hts wc_X6_allWorth_X6 hown hK hP 0 rfl rfl 9 (by decide) (hts _ wd_X6_allWorth_1) (fun _ h9 => h9) rfl dX6_allWorth_6 ?_
  refine lv_iconst (v := 2) hx hb dX6_allWorth_9 (by decide) ?_
  refine gw_top (y := nI 2) rfl ?_
  refine gw_iald hx hb hK hP 3 0 (k := 2) rfl rfl (by omega) (by decide) dX6_allWorth_10 ?_
  refine gw_top (y := nI nw) rfl ?_
  refine lv_icmp_ge (tgt := 28) hx hb dX6_allWorth_11 (by decide) (fun c => ?_) (fun c => ?_)
  · skip
    have hk0 : k = 0 := by have := gw_ge (by omega) (by omega) c; omega
    subst hk0
    refine lv_iload_n hx hb dX6_allWorth_28 rfl (lv_at hl 1 rfl) ?_
    exact W.iret (v := acc) hx hb hr (fun t ht hW => ⟨⟨_, (), rfl, hF, trivial⟩, hS.F ht⟩) hS.2.2 dX6_allWorth_29
  · skip
    have hi : i < nw := gw_lt (by omega) (by omega) c
    obtain ⟨k, rfl⟩ : ∃ k2, k = k2 + 1 := ⟨k - 1, by omega⟩
    refine lv_iload_n hx hb dX6_allWorth_14 rfl (lv_at hl 1 rfl) ?_
    refine lv_aload_n hx hb dX6_allWorth_15 rfl (lv_at hl 2 rfl) ?_
    refine lv_iload_n hx hb dX6_allWorth_16 rfl (lv_at hl 0 rfl) ?_
    refine va_calli (va_runV (As := [.int (nI i)]) (rest := [.int acc]) ⟨hx, hb, hml, hown, hts⟩ (met_X6_worth l D cI cZ cL mo m4 m5 m6 m7 m8 m9 th nb nq nr Q nw i (by first | assumption | omega) (by first | assumption | omega) (by first | assumption | omega) (by first | assumption | omega) (by first | assumption | omega)) (cwV 1 hts gX6_allWorth_X6_worth rfl rfl rfl (by decide +kernel) ⟨Nat.le_of_ble_eq_true rfl, Nat.le_of_ble_eq_true rfl⟩) (gw_pvr hK hP (wc := [(mo, .inr (6, [.int th, .int (nI nb), .int (nI nq), .int (nI nr), .ref m4, .ref m5, .ref m6, .ref m7, .ref m8, .ref m9])), (m5, .inl (cI, 20, .inl (enR Q))), (m7, .inl (cI, 300, .inl (enS Q)))]) [0, 1, 2] rfl 6 rfl rfl rfl) rfl rfl hl.1 rfl (lv_room (Nat.le_of_ble_eq_true rfl)) dX6_allWorth_17 ⟨Nat.zero_le _, Nat.zero_le _⟩) hS (fun _ _ z => z.elim) (fun _ z => z.elim) (fun r_3 _ t H1 locs ht hvm hw hB hz1 hk1 hS => ?_)
    have hP := gw_ro hP hk1
    generalize H1 = H at hP hS ⊢
    subst hw
    refine lv_iadd hx hb dX6_allWorth_20 ?_
    refine lv_istore_n (lv' := [(1, .int (acc + (gWorth (Q 11 i) (Q 10 i) (Q 13 i) (Q 12 i)))), (2, .int (nI i)), (0, .ref mo)]) hx hb dX6_allWorth_21 rfl hl (by decide) rfl (fun ls hl => ?_)
    refine lv_iinc (v := nI (i + 1)) (lv' := [(2, .int (nI (i + 1))), (1, .int (acc + (gWorth (Q 11 i) (Q 10 i) (Q 13 i) (Q 12 i)))), (0, .ref mo)]) hx hb dX6_allWorth_22 hl (k := 1) rfl (nI_add i 1) (by decide) rfl (fun ls hl => ?_)
    refine lv_goto (tgt := 4) hx hb dX6_allWorth_25 (by decide) ?_
    exact ih4 (k, i + 1, acc + (gWorth (Q 11 i) (Q 10 i) (Q 13 i) (Q 12 i))) H locs ls (by dsimp only; omega) ⟨hP, hS, lv_sub hl [0, 1, 2] rfl, (by omega), (by first | exact hF | (rw [← hF]; simp [gS, hcc]) | (rw [← hF]; simp [gS, *]))⟩

theorem wc_X6_water_X6 : ∀ w ∈ u_ws RX6 TX6 10, w ∈ wsX6_water := by decide +kernel
theorem wd_X6_water_1 : (.fieldLink RX6 7 "GritWheelsModel" "fall" "[I" : Cond) ∈ wsX6_water := by decide +kernel
theorem wd_X6_water_2 : (.fieldLink RX6 25 "GritWheelsModel" "numbers" "[I" : Cond) ∈ wsX6_water := by decide +kernel
set_option maxHeartbeats 4000000 in
set_option maxRecDepth 100000 in
theorem met_X6_water (l : Launch) (D : va_G) (cI cZ cL : ClassId) (mo : Nat) (m4 : Nat) (m5 : Nat) (m6 : Nat) (m7 : Nat) (m8 : Nat) (m9 : Nat) (th : Int32) (nb : Nat) (nq : Nat) (nr : Nat) (Q : Nat → Nat → Int32) (day : Nat) (co : Int32) (nw : Nat) (hd : day < 2 ^ 31) : Met l yX6_water wsX6_water ({ frames := 0, cells := 0, slots := 0, locals := 0 }) (gPr [.ref mo] D [(mo, .inr (6, [.int th, .int (nI nb), .int (nI nq), .int (nI nr), .ref m4, .ref m5, .ref m6, .ref m7, .ref m8, .ref m9])), (m4, .inl (cI, 9, .inl (Q 0))), (m9, .inl (cI, 3, .inl (enN day co nw)))] (gT cI cZ cL)) (va_Qi (fun (zr : Int32) (_ : Unit) => zr = Q 0 (day % 9)) (fun _ _ => True) gN) 0 0 gN := by
  refine Met.ofW (cc := cX6_water) (maxL := 1) (ret := (some .int)) (by decide +kernel) rfl ?_
  intro p e s m args below meth c s₁ B hml hv
  obtain ⟨rfl, hP, hK⟩ := hv
  have hx := B.exec
  have hb := B.bytes
  have hr := B.returns
  have hts := atoms_spec (ws := wsX6_water) B.pre
  have hown : s.vm.findClass RX6 = some m.cls := findClass_of_methodNamed B.named
  have hlocks := B.notSynchronized
  have hS : va_S gN s.heap s.heap [] := va_S.rf
  have hP : va_P D vwCl [(mo, .inr (6, [.int th, .int (nI nb), .int (nI nq), .int (nI nr), .ref m4, .ref m5, .ref m6, .ref m7, .ref m8, .ref m9])), (m4, .inl (cI, 9, .inl (Q 0))), (m9, .inl (cI, 3, .inl (enN day co nw)))] s.heap := hP
  have hl := lv_entry ([.ref mo]) (n := 1) (Nat.le_of_ble_eq_true rfl)
  rw [lg_entry_eq]
  generalize (lg_sl ([.ref mo]) ++ List.replicate (1 - (lg_sl ([.ref mo])).length) Slot.unset).toArray = ls at hl ⊢
  have hl : lv_has ls 1 [(0, .ref mo)] := hl
  refine lv_aload_n hx hb dX6_water_0 rfl (lv_at hl 0 rfl) ?_
  refine va_get (D := D) (ci := 6) (v := .ref m4) (C := RX6) (T := TX6) (N := 10) hx hb hts wc_X6_water_X6 hown hK hP 0 rfl rfl 4 (by decide) (hts _ wd_X6_water_1) (fun _ h9 => h9) rfl dX6_water_1 ?_
  refine lv_aload_n hx hb dX6_water_4 rfl (lv_at hl 0 rfl) ?_
  refine va_get (D := D) (ci := 6) (v := .ref m9) (C := RX6) (T := TX6) (N := 10) hx hb hts wc_X6_water_X6 hown hK hP 0 rfl rfl 9 (by decide) (hts _ wd_X6_water_2) (fun _ h9 => h9) rfl dX6_water_5 ?_
  refine lv_iconst (v := 0) hx hb dX6_water_8 (by decide) ?_
  refine gw_top (y := nI 0) rfl ?_
  refine gw_iald hx hb hK hP 2 0 (k := 0) rfl rfl (by omega) (by decide) dX6_water_9 ?_
  refine gw_top (y := nI day) rfl ?_
  refine lv_bipush (v := 9) hx hb dX6_water_10 (by decide) ?_
  refine lv_irem hx hb dX6_water_12 (by decide) ?_
  refine gw_top (y := nI (day % 9)) (pk_rem hd (by decide) (by decide)) ?_
  refine gw_iald hx hb hK hP 1 0 (k := day % 9) rfl rfl (Nat.mod_lt _ (by decide)) (by decide) dX6_water_13 ?_
  exact W.iret (v := Q 0 (day % 9)) hx hb hr (fun t ht hW => ⟨⟨_, (), rfl, rfl, trivial⟩, hS.F ht⟩) hS.2.2 dX6_water_14

theorem wc_X6_left_X6 : ∀ w ∈ u_ws RX6 TX6 10, w ∈ wsX6_left := by decide +kernel
theorem wd_X6_left_1 : (.fieldLink RX6 22 "GritWheelsModel" "boats" "[I" : Cond) ∈ wsX6_left := by decide +kernel
theorem wd_X6_left_2 : (.fieldLink RX6 25 "GritWheelsModel" "numbers" "[I" : Cond) ∈ wsX6_left := by decide +kernel
set_option maxHeartbeats 4000000 in
set_option maxRecDepth 100000 in
theorem met_X6_left (l : Launch) (D : va_G) (cI cZ cL : ClassId) (mo : Nat) (m4 : Nat) (m5 : Nat) (m6 : Nat) (m7 : Nat) (m8 : Nat) (m9 : Nat) (th : Int32) (nb : Nat) (nq : Nat) (nr : Nat) (Q : Nat → Nat → Int32) (day : Nat) (co : Int32) (nw : Nat) (ca : Nat → Int32) (we : Nat → Int32) (r : Nat) (hnw : nw ≤ 60) (hr2 : r < 3) (hcar : ∀ w, w < nw → Q 14 w = -1 ∨ Q 13 w = 2) : Met l yX6_left wsX6_left ({ frames := 2, cells := 0, slots := 0, locals := 44 }) (gPr [.ref mo, .int (nI r)] D [(mo, .inr (6, [.int th, .int (nI nb), .int (nI nq), .int (nI nr), .ref m4, .ref m5, .ref m6, .ref m7, .ref m8, .ref m9])), (m7, .inl (cI, 300, .inl (enS Q))), (m8, .inl (cI, 6, .inl (enB ca we))), (m9, .inl (cI, 3, .inl (enN day co nw)))] (gT cI cZ cL)) (va_Qi (fun (zr : Int32) (_ : Unit) => zr = gStill Q nw ca r) (fun _ _ => True) gN) 0 0 gN := by
  refine Met.ofW (cc := cX6_left) (maxL := 4) (ret := (some .int)) (by decide +kernel) rfl ?_
  intro p e s m args below meth c s₁ B hml hv
  obtain ⟨rfl, hP, hK⟩ := hv
  have hx := B.exec
  have hb := B.bytes
  have hr := B.returns
  have hts := atoms_spec (ws := wsX6_left) B.pre
  have hown : s.vm.findClass RX6 = some m.cls := findClass_of_methodNamed B.named
  have hlocks := B.notSynchronized
  have hS : va_S gN s.heap s.heap [] := va_S.rf
  have hP : va_P D vwCl [(mo, .inr (6, [.int th, .int (nI nb), .int (nI nq), .int (nI nr), .ref m4, .ref m5, .ref m6, .ref m7, .ref m8, .ref m9])), (m7, .inl (cI, 300, .inl (enS Q))), (m8, .inl (cI, 6, .inl (enB ca we))), (m9, .inl (cI, 3, .inl (enN day co nw)))] s.heap := hP
  have hl := lv_entry ([.ref mo, .int (nI r)]) (n := 4) (Nat.le_of_ble_eq_true rfl)
  rw [lg_entry_eq]
  generalize (lg_sl ([.ref mo, .int (nI r)]) ++ List.replicate (4 - (lg_sl ([.ref mo, .int (nI r)])).length) Slot.unset).toArray = ls at hl ⊢
  have hl : lv_has ls 4 [(0, .ref mo), (1, .int (nI r))] := hl
  refine lv_aload_n hx hb dX6_left_0 rfl (lv_at hl 0 rfl) ?_
  refine va_get (D := D) (ci := 6) (v := .ref m8) (C := RX6) (T := TX6) (N := 10) hx hb hts wc_X6_left_X6 hown hK hP 0 rfl rfl 8 (by decide) (hts _ wd_X6_left_1) (fun _ h9 => h9) rfl dX6_left_1 ?_
  refine lv_iconst (v := 2) hx hb dX6_left_4 (by decide) ?_
  refine lv_iload_n hx hb dX6_left_5 rfl (lv_at hl 1 rfl) ?_
  refine lv_imul hx hb dX6_left_6 ?_
  refine gw_top (y := nI (2 * r)) (nI_mul 2 r) ?_
  refine lv_iconst (v := 0) hx hb dX6_left_7 (by decide) ?_
  refine lv_iadd hx hb dX6_left_8 ?_
  refine gw_top (y := nI ((2 * r) + 0)) (nI_add (2 * r) 0) ?_
  refine gw_iald hx hb hK hP 2 0 (k := (2 * r) + 0) rfl rfl (by omega) (by decide) dX6_left_9 ?_
  refine gw_top (y := ca r) (enB_0 ca we r) ?_
  refine lv_istore_n (lv' := [(2, .int (ca r)), (0, .ref mo), (1, .int (nI r))]) hx hb dX6_left_10 rfl hl (by decide) rfl (fun ls hl => ?_)
  refine lv_iconst (v := 0) hx hb dX6_left_11 (by decide) ?_
  refine lv_istore_n (lv' := [(3, .int 0), (2, .int (ca r)), (0, .ref mo), (1, .int (nI r))]) hx hb dX6_left_12 rfl hl (by decide) rfl (fun ls hl => ?_)
  refine gw_loop (fun (zz : Nat × Nat × Int32) H locs ls => match zz with | (k, i, acc) => va_P D vwCl [(mo, .inr (6, [.int th, .int (nI nb), .int (nI nq), .int (nI nr), .ref m4, .ref m5, .ref m6, .ref m7, .ref m8, .ref m9])), (m7, .inl (cI, 300, .inl (enS Q))), (m8, .inl (cI, 6, .inl (enB ca we))), (m9, .inl (cI, 3, .inl (enN day co nw)))] H ∧ va_S gN s.heap H locs ∧ lv_has ls 4 [(3, .int (nI i)), (2, .int acc), (0, .ref mo), (1, .int (nI r))] ∧ (i + k = nw) ∧ (gSub (fun j => if Q 14 j = nI r then 2 * Q 11 j * Q 11 j else 0) k i acc = gSub (fun j => if Q 14 j = nI r then 2 * Q 11 j * Q 11 j else 0) nw 0 (ca r))) (fun (zz : Nat × Nat × Int32) => match zz with | (k, i, acc) => k) (nw, 0, ca r) ⟨hP, hS, lv_sub hl [0, 1, 2, 3] rfl, (by omega), rfl⟩ ?_
  rintro ⟨k, i, acc⟩ ih H locs ls ⟨hP, hS, hl, hin, hF⟩
  have hP : va_P D vwCl [(mo, .inr (6, [.int th, .int (nI nb), .int (nI nq), .int (nI nr), .ref m4, .ref m5, .ref m6, .ref m7, .ref m8, .ref m9])), (m7, .inl (cI, 300, .inl (enS Q))), (m8, .inl (cI, 6, .inl (enB ca we))), (m9, .inl (cI, 3, .inl (enN day co nw)))] H := hP
  have hl : lv_has ls 4 [(3, .int (nI i)), (2, .int acc), (0, .ref mo), (1, .int (nI r))] := hl
  have hin : i + k = nw := hin
  have hF : gSub (fun j => if Q 14 j = nI r then 2 * Q 11 j * Q 11 j else 0) k i acc = gSub (fun j => if Q 14 j = nI r then 2 * Q 11 j * Q 11 j else 0) nw 0 (ca r) := hF
  have ih13 := ih
  refine lv_iload_n hx hb dX6_left_13 rfl (lv_at hl 0 rfl) ?_
  refine lv_aload_n hx hb dX6_left_14 rfl (lv_at hl 2 rfl) ?_
  refine va_get (D := D) (ci := 6) (v := .ref m9) (C := RX6) (T := TX6) (N := 10) hx hb hts wc_X6_left_X6 hown hK hP 0 rfl rfl 9 (by decide) (hts _ wd_X6_left_2) (fun _ h9 => h9) rfl dX6_left_15 ?_
  refine lv_iconst (v := 2) hx hb dX6_left_18 (by decide) ?_
  refine gw_top (y := nI 2) rfl ?_
  refine gw_iald hx hb hK hP 3 0 (k := 2) rfl rfl (by omega) (by decide) dX6_left_19 ?_
  refine gw_top (y := nI nw) rfl ?_
  refine lv_icmp_ge (tgt := 50) hx hb dX6_left_20 (by decide) (fun c => ?_) (fun c => ?_)
  · skip
    have hk0 : k = 0 := by have := gw_ge (by omega) (by omega) c; omega
    subst hk0
    refine lv_iload_n hx hb dX6_left_50 rfl (lv_at hl 1 rfl) ?_
    exact W.iret (v := acc) hx hb hr (fun t ht hW => ⟨⟨_, (), rfl, (hF.trans (gSub_eq _ _ _ _)), trivial⟩, hS.F ht⟩) hS.2.2 dX6_left_51
  · skip
    have hi : i < nw := gw_lt (by omega) (by omega) c
    obtain ⟨k, rfl⟩ : ∃ k2, k = k2 + 1 := ⟨k - 1, by omega⟩
    refine lv_iload_n hx hb dX6_left_23 rfl (lv_at hl 1 rfl) ?_
    refine lv_aload_n hx hb dX6_left_24 rfl (lv_at hl 2 rfl) ?_
    refine lv_iload_n hx hb dX6_left_25 rfl (lv_at hl 0 rfl) ?_
    refine lv_iload_n hx hb dX6_left_26 rfl (lv_at hl 3 rfl) ?_
    refine va_calli (va_runV (As := [.int (nI i), .int (nI r)]) (rest := [.int acc]) ⟨hx, hb, hml, hown, hts⟩ (met_X6_isUpon l D cI cZ cL mo m4 m5 m6 m7 m8 m9 th nb nq nr Q i r (by first | assumption | omega)) (cwV 2 hts gX6_left_X6_isUpon rfl rfl rfl (by decide +kernel) ⟨Nat.le_of_ble_eq_true rfl, Nat.le_of_ble_eq_true rfl⟩) (gw_pvr hK hP (wc := [(mo, .inr (6, [.int th, .int (nI nb), .int (nI nq), .int (nI nr), .ref m4, .ref m5, .ref m6, .ref m7, .ref m8, .ref m9])), (m7, .inl (cI, 300, .inl (enS Q)))]) [0, 1] rfl 6 rfl rfl rfl) rfl rfl hl.1 rfl (lv_room (Nat.le_of_ble_eq_true rfl)) dX6_left_27 ⟨Nat.zero_le _, Nat.zero_le _⟩) hS (fun _ _ z => z.elim) (fun _ z => z.elim) (fun r_3 _ t H1 locs ht hvm hw hB hz1 hk1 hS => ?_)
    have hP := gw_ro hP hk1
    generalize H1 = H at hP hS ⊢
    rcases hw with ⟨rfl, hc⟩ | ⟨rfl, hc⟩
    · skip
      have hcc : Q 14 i = nI r := hc.2
      refine lv_if_eq (tgt := 41) hx hb dX6_left_30 (by decide) (fun c_5 => False.elim (by revert c_5; decide)) (fun _ => ?_)
      refine lv_aload_n hx hb dX6_left_33 rfl (lv_at hl 2 rfl) ?_
      refine lv_iload_n hx hb dX6_left_34 rfl (lv_at hl 0 rfl) ?_
      refine va_calli (va_runV (As := [.int (nI i)]) (rest := [.int acc]) ⟨hx, hb, hml, hown, hts⟩ (met_X6_weight l D cI cZ cL mo m4 m5 m6 m7 m8 m9 th nb nq nr Q i (by first | assumption | omega)) (cwV 1 hts gX6_left_X6_weight rfl rfl rfl (by decide +kernel) ⟨Nat.le_of_ble_eq_true rfl, Nat.le_of_ble_eq_true rfl⟩) (gw_pvr hK hP (wc := [(mo, .inr (6, [.int th, .int (nI nb), .int (nI nq), .int (nI nr), .ref m4, .ref m5, .ref m6, .ref m7, .ref m8, .ref m9])), (m7, .inl (cI, 300, .inl (enS Q)))]) [0, 1] rfl 6 rfl rfl rfl) rfl rfl hl.1 rfl (lv_room (Nat.le_of_ble_eq_true rfl)) dX6_left_35 ⟨Nat.zero_le _, Nat.zero_le _⟩) hS (fun _ _ z => z.elim) (fun _ z => z.elim) (fun r_7 _ t H1 locs ht hvm hw hB hz1 hk1 hS => ?_)
      have hP := gw_ro hP hk1
      generalize H1 = H at hP hS ⊢
      subst hw
      refine lv_goto (tgt := 42) hx hb dX6_left_38 (by decide) ?_
      refine lv_isub hx hb dX6_left_42 ?_
      refine lv_istore_n (lv' := [(2, .int (acc - (2 * Q 11 i * Q 11 i))), (3, .int (nI i)), (0, .ref mo), (1, .int (nI r))]) hx hb dX6_left_43 rfl hl (by decide) rfl (fun ls hl => ?_)
      refine lv_iinc (v := nI (i + 1)) (lv' := [(3, .int (nI (i + 1))), (2, .int (acc - (2 * Q 11 i * Q 11 i))), (0, .ref mo), (1, .int (nI r))]) hx hb dX6_left_44 hl (k := 1) rfl (nI_add i 1) (by decide) rfl (fun ls hl => ?_)
      refine lv_goto (tgt := 13) hx hb dX6_left_47 (by decide) ?_
      exact ih13 (k, i + 1, acc - (2 * Q 11 i * Q 11 i)) H locs ls (by dsimp only; omega) ⟨hP, hS, lv_sub hl [0, 1, 2, 3] rfl, (by omega), (by rw [← hF]; simp [gSub, hcc])⟩
    · skip
      have hcc : ¬ Q 14 i = nI r := fun hh => hc ⟨((hcar i hi).resolve_left (by rw [hh]; exact gw_nIm1 (by omega))), hh⟩
      refine lv_if_eq (tgt := 41) hx hb dX6_left_30 (by decide) (fun _ => ?_) (fun c_8 => False.elim (by revert c_8; decide))
      refine lv_iconst (v := 0) hx hb dX6_left_41 (by decide) ?_
      refine lv_isub hx hb dX6_left_42 ?_
      refine lv_istore_n (lv' := [(2, .int (acc - 0)), (3, .int (nI i)), (0, .ref mo), (1, .int (nI r))]) hx hb dX6_left_43 rfl hl (by decide) rfl (fun ls hl => ?_)
      refine lv_iinc (v := nI (i + 1)) (lv' := [(3, .int (nI (i + 1))), (2, .int (acc - 0)), (0, .ref mo), (1, .int (nI r))]) hx hb dX6_left_44 hl (k := 1) rfl (nI_add i 1) (by decide) rfl (fun ls hl => ?_)
      refine lv_goto (tgt := 13) hx hb dX6_left_47 (by decide) ?_
      exact ih13 (k, i + 1, acc - 0) H locs ls (by dsimp only; omega) ⟨hP, hS, lv_sub hl [0, 1, 2, 3] rfl, (by omega), (by rw [← hF]; simp [gSub, hcc])⟩
