set_option maxHeartbeats 4000000 in
set_option maxRecDepth 100000 in
theorem met_X5_isWithin (l : Launch) (D : va_G) (cI cZ cL : ClassId) (x : Int32) (y : Int32) (z : Int32) : Met l yX5_isWithin wsX5_isWithin ({ frames := 0, cells := 0, slots := 0, locals := 0 }) (gPr [.int x, .int y, .int z] D [] (gT cI cZ cL)) (va_Qi (fun (r : Int32) (_ : Unit) => (r = 1 ∧ (y ≤ x ∧ x ≤ z)) ∨ (r = 0 ∧ ¬ (y ≤ x ∧ x ≤ z))) (fun _ _ => True) gN) 0 0 gN := by
  refine Met.ofW (cc := cX5_isWithin) (maxL := 3) (ret := (some .boolean)) (by decide +kernel) rfl ?_
  intro p e s m args below meth c s₁ B hml hv
  obtain ⟨rfl, hP, hK⟩ := hv
  have hx := B.exec
  have hb := B.bytes
  have hr := B.returns
  have hts := atoms_spec (ws := wsX5_isWithin) B.pre
  have hown : s.vm.findClass RX5 = some m.cls := findClass_of_methodNamed B.named
  have hlocks := B.notSynchronized
  have hS : va_S gN s.heap s.heap [] := va_S.rf
  have hP : va_P D vwCl [] s.heap := hP
  have hl := lv_entry ([.int x, .int y, .int z]) (n := 3) (Nat.le_of_ble_eq_true rfl)
  rw [lg_entry_eq]
  generalize (lg_sl ([.int x, .int y, .int z]) ++ List.replicate (3 - (lg_sl ([.int x, .int y, .int z])).length) Slot.unset).toArray = ls at hl ⊢
  have hl : lv_has ls 3 [(0, .int x), (1, .int y), (2, .int z)] := hl
  refine lv_iload_n hx hb dX5_isWithin_0 rfl (lv_at hl 0 rfl) ?_
  refine lv_iload_n hx hb dX5_isWithin_1 rfl (lv_at hl 1 rfl) ?_
  refine lv_icmp_lt (tgt := 14) hx hb dX5_isWithin_2 (by decide) (fun h1 => ?_) (fun h1 => ?_)
  · skip
    refine lv_iconst (v := 0) hx hb dX5_isWithin_14 (by decide) ?_
    exact W.zret (v := 0) hx hb hr rfl (fun t ht hW => ⟨⟨_, (), rfl, Or.inr ⟨rfl, (fun hh => by first | exact absurd h1 (Int32.not_lt.mpr hh.1) | exact absurd h2 (Int32.not_lt.mpr hh.2))⟩, trivial⟩, hS.F ht⟩) hS.2.2 dX5_isWithin_15
  · skip
    refine lv_iload_n hx hb dX5_isWithin_5 rfl (lv_at hl 0 rfl) ?_
    refine lv_iload_n hx hb dX5_isWithin_6 rfl (lv_at hl 2 rfl) ?_
    refine lv_icmp_gt (tgt := 14) hx hb dX5_isWithin_7 (by decide) (fun h2 => ?_) (fun h2 => ?_)
    · skip
      refine lv_iconst (v := 0) hx hb dX5_isWithin_14 (by decide) ?_
      exact W.zret (v := 0) hx hb hr rfl (fun t ht hW => ⟨⟨_, (), rfl, Or.inr ⟨rfl, (fun hh => by first | exact absurd h1 (Int32.not_lt.mpr hh.1) | exact absurd h2 (Int32.not_lt.mpr hh.2))⟩, trivial⟩, hS.F ht⟩) hS.2.2 dX5_isWithin_15
    · skip
      refine lv_iconst (v := 1) hx hb dX5_isWithin_10 (by decide) ?_
      refine lv_goto (tgt := 15) hx hb dX5_isWithin_11 (by decide) ?_
      exact W.zret (v := 1) hx hb hr rfl (fun t ht hW => ⟨⟨_, (), rfl, Or.inl ⟨rfl, ⟨Int32.not_lt.mp h1, Int32.not_lt.mp h2⟩⟩, trivial⟩, hS.F ht⟩) hS.2.2 dX5_isWithin_15

theorem wc_X5_countOf_X5 : ∀ w ∈ u_ws RX5 TX5 4, w ∈ wsX5_countOf := by decide +kernel
theorem wd_X5_countOf_1 : (.fieldLink RX5 10 "GritWheels" "now" "LGritWheels$Quarry;" : Cond) ∈ wsX5_countOf := by decide +kernel
theorem wd_X5_countOf_2 : (.fieldLink RX5 168 "GritWheels" "coins" "I" : Cond) ∈ wsX5_countOf := by decide +kernel
set_option maxHeartbeats 4000000 in
set_option maxRecDepth 100000 in
theorem met_X5_countOf (l : Launch) (D : va_G) (cI cZ cL : ClassId) (gx : Nat) (qu : Nat) (qt : Nat) (rf : Nat) (qf : Nat) (bd : Nat) (cr : Nat) (wh : Nat) (cr0 : Nat) (cr1 : Nat) (cr2 : Nat) (cr3 : Nat) (wh0 : Nat) (wh1 : Nat) (wh2 : Nat) (wh3 : Nat) (wh4 : Nat) (wh5 : Nat) (co : Int32) (Q : Nat → Nat → Int32) (nq : Nat) (nw : Nat) (day : Nat) (v : Nat) (hv9 : v < 10) (hnq : nq ≤ 6) (hnw : nw ≤ 60) (hd : day < 2 ^ 31) : Met l yX5_countOf wsX5_countOf ({ frames := 4, cells := 0, slots := 0, locals := 83 }) (gPr [.ref gx, .int (nI v)] D [(gx, .inr (5, [.ref qu, .ref qt, .ref rf, .int co])), (qu, .inr (2, [.ref qf, .ref bd, .ref cr, .ref wh, .int (nI day)])), (qf, .inl (cI, 9, .inl (Q 0))), (cr, .inr (1, [.ref cr0, .ref cr1, .ref cr2, .ref cr3, .int (nI nq)])), (cr2, .inl (cI, 6, .inl (Q 7))), (wh, .inr (4, [.ref wh0, .ref wh1, .ref wh2, .ref wh3, .ref wh4, .ref wh5, .int (nI nw)])), (wh4, .inl (cI, 60, .inl (Q 13)))] (gT cI cZ cL)) (va_Qi (fun (r : Int32) (_ : Unit) => r = gCntC Q nq nw day co v) (fun _ _ => True) gN) 0 0 gN := by
  refine Met.ofW (cc := cX5_countOf) (maxL := 2) (ret := (some .int)) (by decide +kernel) rfl ?_
  intro p e s m args below meth c s₁ B hml hv
  obtain ⟨rfl, hP, hK⟩ := hv
  have hx := B.exec
  have hb := B.bytes
  have hr := B.returns
  have hts := atoms_spec (ws := wsX5_countOf) B.pre
  have hown : s.vm.findClass RX5 = some m.cls := findClass_of_methodNamed B.named
  have hlocks := B.notSynchronized
  have hS : va_S gN s.heap s.heap [] := va_S.rf
  have hP : va_P D vwCl [(gx, .inr (5, [.ref qu, .ref qt, .ref rf, .int co])), (qu, .inr (2, [.ref qf, .ref bd, .ref cr, .ref wh, .int (nI day)])), (qf, .inl (cI, 9, .inl (Q 0))), (cr, .inr (1, [.ref cr0, .ref cr1, .ref cr2, .ref cr3, .int (nI nq)])), (cr2, .inl (cI, 6, .inl (Q 7))), (wh, .inr (4, [.ref wh0, .ref wh1, .ref wh2, .ref wh3, .ref wh4, .ref wh5, .int (nI nw)])), (wh4, .inl (cI, 60, .inl (Q 13)))] s.heap := hP
  have hl := lv_entry ([.ref gx, .int (nI v)]) (n := 2) (Nat.le_of_ble_eq_true rfl)
  rw [lg_entry_eq]
  generalize (lg_sl ([.ref gx, .int (nI v)]) ++ List.replicate (2 - (lg_sl ([.ref gx, .int (nI v)])).length) Slot.unset).toArray = ls at hl ⊢
  have hl : lv_has ls 2 [(0, .ref gx), (1, .int (nI v))] := hl
  refine lv_iload_n hx hb dX5_countOf_0 rfl (lv_at hl 1 rfl) ?_
  refine lv_bipush (v := 8) hx hb dX5_countOf_1 (by decide) ?_
  refine lv_icmp_ne (tgt := 13) hx hb dX5_countOf_3 (by decide) (fun h1 => ?_) (fun h1 => ?_)
  · skip
    have h1 : ¬ v = 8 := fun h0 => h1 (by rw [h0]; rfl)
    refine lv_aload_n hx hb dX5_countOf_13 rfl (lv_at hl 0 rfl) ?_
    refine va_get (D := D) (ci := 5) (v := .ref qu) (C := RX5) (T := TX5) (N := 4) hx hb hts wc_X5_countOf_X5 hown hK hP 0 rfl rfl 0 (by decide) (hts _ wd_X5_countOf_1) (fun _ h9 => h9) rfl dX5_countOf_14 ?_
    refine lv_iload_n hx hb dX5_countOf_17 rfl (lv_at hl 1 rfl) ?_
    refine va_calli (va_runV (As := [.int (nI v)]) (rest := []) ⟨hx, hb, hml, hown, hts⟩ (met_X2_countOf l D cI cZ cL qu qf bd cr wh cr0 cr1 cr2 cr3 wh0 wh1 wh2 wh3 wh4 wh5 Q nq nw day v (by first | assumption | omega) (by first | assumption | omega) (by first | assumption | omega) (by first | assumption | omega)) (cwV 1 hts gX5_countOf_X2_countOf rfl rfl rfl (by decide +kernel) ⟨Nat.le_of_ble_eq_true rfl, Nat.le_of_ble_eq_true rfl⟩) (gw_pvr hK hP (wc := [(qu, .inr (2, [.ref qf, .ref bd, .ref cr, .ref wh, .int (nI day)])), (qf, .inl (cI, 9, .inl (Q 0))), (cr, .inr (1, [.ref cr0, .ref cr1, .ref cr2, .ref cr3, .int (nI nq)])), (cr2, .inl (cI, 6, .inl (Q 7))), (wh, .inr (4, [.ref wh0, .ref wh1, .ref wh2, .ref wh3, .ref wh4, .ref wh5, .int (nI nw)])), (wh4, .inl (cI, 60, .inl (Q 13)))]) [1, 2, 3, 4, 5, 6] rfl 2 rfl rfl rfl) rfl rfl hl.1 rfl (lv_room (Nat.le_of_ble_eq_true rfl)) dX5_countOf_18 ⟨Nat.zero_le _, Nat.zero_le _⟩) hS (fun _ _ z => z.elim) (fun _ z => z.elim) (fun r_3 _ t H1 locs ht hvm hw hB hz1 hk1 hS => ?_)
    have hP := gw_ro hP hk1
    generalize H1 = H at hP hS ⊢
    subst hw
    exact W.iret (v := gCnt Q nq nw day v) hx hb hr (fun t ht hW => ⟨⟨_, (), rfl, (by unfold gCntC; first | rw [if_pos h1] | rw [if_neg h1]), trivial⟩, hS.F ht⟩) hS.2.2 dX5_countOf_21
  · skip
    have h1 : v = 8 := (nI_eq (by omega) (by decide)).mp (show nI v = nI 8 from h1)
    refine lv_aload_n hx hb dX5_countOf_6 rfl (lv_at hl 0 rfl) ?_
    refine va_get (D := D) (ci := 5) (v := .int co) (C := RX5) (T := TX5) (N := 4) hx hb hts wc_X5_countOf_X5 hown hK hP 0 rfl rfl 3 (by decide) (hts _ wd_X5_countOf_2) (fun _ h9 => h9) rfl dX5_countOf_7 ?_
    refine lv_goto (tgt := 21) hx hb dX5_countOf_10 (by decide) ?_
    exact W.iret (v := co) hx hb hr (fun t ht hW => ⟨⟨_, (), rfl, (by unfold gCntC; first | rw [if_pos h1] | rw [if_neg h1]), trivial⟩, hS.F ht⟩) hS.2.2 dX5_countOf_21

theorem wc_X5_stillCarried_X5 : ∀ w ∈ u_ws RX5 TX5 4, w ∈ wsX5_stillCarried := by decide +kernel
theorem wd_X5_stillCarried_1 : (.fieldLink RX5 22 "GritWheels" "rafts" "LGritWheels$Rafts;" : Cond) ∈ wsX5_stillCarried := by decide +kernel
theorem wc_X5_stillCarried_X3 : ∀ w ∈ u_ws RX3 TX3 3, w ∈ wsX5_stillCarried := by decide +kernel
theorem wd_X5_stillCarried_3 : (.fieldLink RX5 229 "GritWheels$Rafts" "carries" "[I" : Cond) ∈ wsX5_stillCarried := by decide +kernel
theorem wd_X5_stillCarried_4 : (.fieldLink RX5 10 "GritWheels" "now" "LGritWheels$Quarry;" : Cond) ∈ wsX5_stillCarried := by decide +kernel
theorem wc_X5_stillCarried_X2 : ∀ w ∈ u_ws RX2 TX2 5, w ∈ wsX5_stillCarried := by decide +kernel
theorem wd_X5_stillCarried_6 : (.fieldLink RX5 93 "GritWheels$Quarry" "wheels" "LGritWheels$Wheels;" : Cond) ∈ wsX5_stillCarried := by decide +kernel
set_option maxHeartbeats 4000000 in
set_option maxRecDepth 100000 in
theorem met_X5_stillCarried (l : Launch) (D : va_G) (cI cZ cL : ClassId) (gx : Nat) (qu : Nat) (qt : Nat) (rf : Nat) (qf : Nat) (bd : Nat) (cr : Nat) (wh : Nat) (wh0 : Nat) (wh1 : Nat) (wh2 : Nat) (wh3 : Nat) (wh4 : Nat) (wh5 : Nat) (rf0 : Nat) (rf1 : Nat) (co : Int32) (Q : Nat → Nat → Int32) (nw : Nat) (day : Nat) (nr : Nat) (ca : Nat → Int32) (k : Nat) (hk : k < 3) (hnw : nw ≤ 60) : Met l yX5_stillCarried wsX5_stillCarried ({ frames := 2, cells := 0, slots := 0, locals := 44 }) (gPr [.ref gx, .int (nI k)] D [(gx, .inr (5, [.ref qu, .ref qt, .ref rf, .int co])), (qu, .inr (2, [.ref qf, .ref bd, .ref cr, .ref wh, .int (nI day)])), (wh, .inr (4, [.ref wh0, .ref wh1, .ref wh2, .ref wh3, .ref wh4, .ref wh5, .int (nI nw)])), (wh2, .inl (cI, 60, .inl (Q 11))), (wh5, .inl (cI, 60, .inl (Q 14))), (rf, .inr (3, [.ref rf0, .ref rf1, .int (nI nr)])), (rf0, .inl (cI, 3, .inl ca))] (gT cI cZ cL)) (va_Qi (fun (r : Int32) (_ : Unit) => r = gStill Q nw ca k) (fun _ _ => True) gN) 0 0 gN := by
  refine Met.ofW (cc := cX5_stillCarried) (maxL := 2) (ret := (some .int)) (by decide +kernel) rfl ?_
  intro p e s m args below meth c s₁ B hml hv
  obtain ⟨rfl, hP, hK⟩ := hv
  have hx := B.exec
  have hb := B.bytes
  have hr := B.returns
  have hts := atoms_spec (ws := wsX5_stillCarried) B.pre
  have hown : s.vm.findClass RX5 = some m.cls := findClass_of_methodNamed B.named
  have hlocks := B.notSynchronized
  have hS : va_S gN s.heap s.heap [] := va_S.rf
  have hP : va_P D vwCl [(gx, .inr (5, [.ref qu, .ref qt, .ref rf, .int co])), (qu, .inr (2, [.ref qf, .ref bd, .ref cr, .ref wh, .int (nI day)])), (wh, .inr (4, [.ref wh0, .ref wh1, .ref wh2, .ref wh3, .ref wh4, .ref wh5, .int (nI nw)])), (wh2, .inl (cI, 60, .inl (Q 11))), (wh5, .inl (cI, 60, .inl (Q 14))), (rf, .inr (3, [.ref rf0, .ref rf1, .int (nI nr)])), (rf0, .inl (cI, 3, .inl ca))] s.heap := hP
  have hl := lv_entry ([.ref gx, .int (nI k)]) (n := 2) (Nat.le_of_ble_eq_true rfl)
  rw [lg_entry_eq]
  generalize (lg_sl ([.ref gx, .int (nI k)]) ++ List.replicate (2 - (lg_sl ([.ref gx, .int (nI k)])).length) Slot.unset).toArray = ls at hl ⊢
  have hl : lv_has ls 2 [(0, .ref gx), (1, .int (nI k))] := hl
  refine lv_aload_n hx hb dX5_stillCarried_0 rfl (lv_at hl 0 rfl) ?_
  refine va_get (D := D) (ci := 5) (v := .ref rf) (C := RX5) (T := TX5) (N := 4) hx hb hts wc_X5_stillCarried_X5 hown hK hP 0 rfl rfl 2 (by decide) (hts _ wd_X5_stillCarried_1) (fun _ h9 => h9) rfl dX5_stillCarried_1 ?_
  refine va_get (D := D) (ci := 3) (v := .ref rf0) (C := RX3) (T := TX3) (N := 3) hx hb hts wc_X5_stillCarried_X3 hown hK hP 5 rfl rfl 0 (by decide) (hts _ wd_X5_stillCarried_3) (fun _ h9 => h9) rfl dX5_stillCarried_4 ?_
  refine lv_iload_n hx hb dX5_stillCarried_7 rfl (lv_at hl 1 rfl) ?_
  refine gw_iald hx hb hK hP 6 0 (k := k) rfl rfl (by omega) (by decide) dX5_stillCarried_8 ?_
  refine lv_aload_n hx hb dX5_stillCarried_9 rfl (lv_at hl 0 rfl) ?_
  refine va_get (D := D) (ci := 5) (v := .ref qu) (C := RX5) (T := TX5) (N := 4) hx hb hts wc_X5_stillCarried_X5 hown hK hP 0 rfl rfl 0 (by decide) (hts _ wd_X5_stillCarried_4) (fun _ h9 => h9) rfl dX5_stillCarried_10 ?_
  refine va_get (D := D) (ci := 2) (v := .ref wh) (C := RX2) (T := TX2) (N := 5) hx hb hts wc_X5_stillCarried_X2 hown hK hP 1 rfl rfl 3 (by decide) (hts _ wd_X5_stillCarried_6) (fun _ h9 => h9) rfl dX5_stillCarried_13 ?_
  refine lv_iload_n hx hb dX5_stillCarried_16 rfl (lv_at hl 1 rfl) ?_
  refine va_calli (va_runV (As := [.int (nI k)]) (rest := [.int (ca k)]) ⟨hx, hb, hml, hown, hts⟩ (met_X4_weightOn l D cI cZ cL wh wh0 wh1 wh2 wh3 wh4 wh5 nw (Q 11) (Q 14) (nI k) (by first | assumption | omega)) (cwV 1 hts gX5_stillCarried_X4_weightOn rfl rfl rfl (by decide +kernel) ⟨Nat.le_of_ble_eq_true rfl, Nat.le_of_ble_eq_true rfl⟩) (gw_pvr hK hP (wc := [(wh, .inr (4, [.ref wh0, .ref wh1, .ref wh2, .ref wh3, .ref wh4, .ref wh5, .int (nI nw)])), (wh2, .inl (cI, 60, .inl (Q 11))), (wh5, .inl (cI, 60, .inl (Q 14)))]) [2, 3, 4] rfl 4 rfl rfl rfl) rfl rfl hl.1 rfl (lv_room (Nat.le_of_ble_eq_true rfl)) dX5_stillCarried_17 ⟨Nat.zero_le _, Nat.zero_le _⟩) hS (fun _ _ z => z.elim) (fun _ z => z.elim) (fun r_2 _ t H1 locs ht hvm hw hB hz1 hk1 hS => ?_)
  have hP := gw_ro hP hk1
  generalize H1 = H at hP hS ⊢
  subst hw
  refine lv_isub hx hb dX5_stillCarried_20 ?_
  exact W.iret (v := (ca k) - (gS (fun j => if (Q 14) j = (nI k) then 2 * (Q 11) j * (Q 11) j else 0) nw 0 0)) hx hb hr (fun t ht hW => ⟨⟨_, (), rfl, rfl, trivial⟩, hS.F ht⟩) hS.2.2 dX5_stillCarried_21

theorem wc_X5_raftFact_X5 : ∀ w ∈ u_ws RX5 TX5 4, w ∈ wsX5_raftFact := by decide +kernel
theorem wd_X5_raftFact_1 : (.fieldLink RX5 22 "GritWheels" "rafts" "LGritWheels$Rafts;" : Cond) ∈ wsX5_raftFact := by decide +kernel
theorem wc_X5_raftFact_X3 : ∀ w ∈ u_ws RX3 TX3 3, w ∈ wsX5_raftFact := by decide +kernel
theorem wd_X5_raftFact_3 : (.fieldLink RX5 229 "GritWheels$Rafts" "carries" "[I" : Cond) ∈ wsX5_raftFact := by decide +kernel
theorem wd_X5_raftFact_4 : (.fieldLink RX5 10 "GritWheels" "now" "LGritWheels$Quarry;" : Cond) ∈ wsX5_raftFact := by decide +kernel
theorem wc_X5_raftFact_X2 : ∀ w ∈ u_ws RX2 TX2 5, w ∈ wsX5_raftFact := by decide +kernel
theorem wd_X5_raftFact_6 : (.fieldLink RX5 93 "GritWheels$Quarry" "wheels" "LGritWheels$Wheels;" : Cond) ∈ wsX5_raftFact := by decide +kernel
theorem wd_X5_raftFact_7 : (.fieldLink RX5 133 "GritWheels$Quarry" "day" "I" : Cond) ∈ wsX5_raftFact := by decide +kernel
set_option maxHeartbeats 4000000 in
set_option maxRecDepth 100000 in
theorem met_X5_raftFact (l : Launch) (D : va_G) (cI cZ cL : ClassId) (gx : Nat) (qu : Nat) (qt : Nat) (rf : Nat) (qf : Nat) (bd : Nat) (cr : Nat) (wh : Nat) (wh0 : Nat) (wh1 : Nat) (wh2 : Nat) (wh3 : Nat) (wh4 : Nat) (wh5 : Nat) (rf0 : Nat) (rf1 : Nat) (co : Int32) (Q : Nat → Nat → Int32) (nw : Nat) (day : Nat) (nr : Nat) (ca : Nat → Int32) (bo : Nat → Int32) (k : Nat) (v : Nat) (hk : k < 3) (hv4 : v < 4) (hnw : nw ≤ 60) : Met l yX5_raftFact wsX5_raftFact ({ frames := 3, cells := 0, slots := 0, locals := 65 }) (gPr [.ref gx, .int (nI k), .int (nI v)] D [(gx, .inr (5, [.ref qu, .ref qt, .ref rf, .int co])), (qu, .inr (2, [.ref qf, .ref bd, .ref cr, .ref wh, .int (nI day)])), (wh, .inr (4, [.ref wh0, .ref wh1, .ref wh2, .ref wh3, .ref wh4, .ref wh5, .int (nI nw)])), (wh2, .inl (cI, 60, .inl (Q 11))), (wh5, .inl (cI, 60, .inl (Q 14))), (rf, .inr (3, [.ref rf0, .ref rf1, .int (nI nr)])), (rf0, .inl (cI, 3, .inl ca)), (rf1, .inl (cI, 3, .inl bo))] (gT cI cZ cL)) (va_Qi (fun (r : Int32) (_ : Unit) => r = gRaft Q nw day ca bo v k) (fun _ _ => True) gN) 0 0 gN := by
  refine Met.ofW (cc := cX5_raftFact) (maxL := 3) (ret := (some .int)) (by decide +kernel) rfl ?_
  intro p e s m args below meth c s₁ B hml hv
  obtain ⟨rfl, hP, hK⟩ := hv
  have hx := B.exec
  have hb := B.bytes
  have hr := B.returns
  have hts := atoms_spec (ws := wsX5_raftFact) B.pre
  have hown : s.vm.findClass RX5 = some m.cls := findClass_of_methodNamed B.named
  have hlocks := B.notSynchronized
  have hS : va_S gN s.heap s.heap [] := va_S.rf
  have hP : va_P D vwCl [(gx, .inr (5, [.ref qu, .ref qt, .ref rf, .int co])), (qu, .inr (2, [.ref qf, .ref bd, .ref cr, .ref wh, .int (nI day)])), (wh, .inr (4, [.ref wh0, .ref wh1, .ref wh2, .ref wh3, .ref wh4, .ref wh5, .int (nI nw)])), (wh2, .inl (cI, 60, .inl (Q 11))), (wh5, .inl (cI, 60, .inl (Q 14))), (rf, .inr (3, [.ref rf0, .ref rf1, .int (nI nr)])), (rf0, .inl (cI, 3, .inl ca)), (rf1, .inl (cI, 3, .inl bo))] s.heap := hP
  have hl := lv_entry ([.ref gx, .int (nI k), .int (nI v)]) (n := 3) (Nat.le_of_ble_eq_true rfl)
  rw [lg_entry_eq]
  generalize (lg_sl ([.ref gx, .int (nI k), .int (nI v)]) ++ List.replicate (3 - (lg_sl ([.ref gx, .int (nI k), .int (nI v)])).length) Slot.unset).toArray = ls at hl ⊢
  have hl : lv_has ls 3 [(0, .ref gx), (1, .int (nI k)), (2, .int (nI v))] := hl
  refine lv_iload_n hx hb dX5_raftFact_0 rfl (lv_at hl 2 rfl) ?_
  rcases (show v = 0 ∨ v = 1 ∨ v = 2 ∨ v = 3 by omega) with rfl | rfl | rfl | rfl
  · skip
    refine lv_tableIn (off := 27) (tgt := 28) hx hb dX5_raftFact_1 (by decide) (by decide) rfl (by decide) ?_
    refine lv_aload_n hx hb dX5_raftFact_28 rfl (lv_at hl 0 rfl) ?_
    refine va_get (D := D) (ci := 5) (v := .ref rf) (C := RX5) (T := TX5) (N := 4) hx hb hts wc_X5_raftFact_X5 hown hK hP 0 rfl rfl 2 (by decide) (hts _ wd_X5_raftFact_1) (fun _ h9 => h9) rfl dX5_raftFact_29 ?_
    refine va_get (D := D) (ci := 3) (v := .ref rf0) (C := RX3) (T := TX3) (N := 3) hx hb hts wc_X5_raftFact_X3 hown hK hP 5 rfl rfl 0 (by decide) (hts _ wd_X5_raftFact_3) (fun _ h9 => h9) rfl dX5_raftFact_32 ?_
    refine lv_iload_n hx hb dX5_raftFact_35 rfl (lv_at hl 1 rfl) ?_
    refine gw_iald hx hb hK hP 6 0 (k := k) rfl rfl (by omega) (by decide) dX5_raftFact_36 ?_
    exact W.iret (v := ca k) hx hb hr (fun t ht hW => ⟨⟨_, (), rfl, rfl, trivial⟩, hS.F ht⟩) hS.2.2 dX5_raftFact_37
  · skip
    refine lv_tableIn (off := 37) (tgt := 38) hx hb dX5_raftFact_1 (by decide) (by decide) rfl (by decide) ?_
    refine lv_aload_n hx hb dX5_raftFact_38 rfl (lv_at hl 0 rfl) ?_
    refine lv_iload_n hx hb dX5_raftFact_39 rfl (lv_at hl 1 rfl) ?_
    refine va_calli (va_runV (As := [.int (nI k)]) (rest := []) ⟨hx, hb, hml, hown, hts⟩ (met_X5_stillCarried l D cI cZ cL gx qu qt rf qf bd cr wh wh0 wh1 wh2 wh3 wh4 wh5 rf0 rf1 co Q nw day nr ca k (by first | assumption | omega) (by first | assumption | omega)) (cwV 1 hts gX5_raftFact_X5_stillCarried rfl rfl rfl (by decide +kernel) ⟨Nat.le_of_ble_eq_true rfl, Nat.le_of_ble_eq_true rfl⟩) (gw_pvr hK hP (wc := [(gx, .inr (5, [.ref qu, .ref qt, .ref rf, .int co])), (qu, .inr (2, [.ref qf, .ref bd, .ref cr, .ref wh, .int (nI day)])), (wh, .inr (4, [.ref wh0, .ref wh1, .ref wh2, .ref wh3, .ref wh4, .ref wh5, .int (nI nw)])), (wh2, .inl (cI, 60, .inl (Q 11))), (wh5, .inl (cI, 60, .inl (Q 14))), (rf, .inr (3, [.ref rf0, .ref rf1, .int (nI nr)])), (rf0, .inl (cI, 3, .inl ca))]) [0, 1, 2, 3, 4, 5, 6] rfl 5 rfl rfl rfl) rfl rfl hl.1 rfl (lv_room (Nat.le_of_ble_eq_true rfl)) dX5_raftFact_40 ⟨Nat.zero_le _, Nat.zero_le _⟩) hS (fun _ _ z => z.elim) (fun _ z => z.elim) (fun r_2 _ t H1 locs ht hvm hw hB hz1 hk1 hS => ?_)
    have hP := gw_ro hP hk1
    generalize H1 = H at hP hS ⊢
    subst hw
    exact W.iret (v := gStill Q nw ca k) hx hb hr (fun t ht hW => ⟨⟨_, (), rfl, rfl, trivial⟩, hS.F ht⟩) hS.2.2 dX5_raftFact_43
  · skip
    refine lv_tableIn (off := 43) (tgt := 44) hx hb dX5_raftFact_1 (by decide) (by decide) rfl (by decide) ?_
    refine lv_aload_n hx hb dX5_raftFact_44 rfl (lv_at hl 0 rfl) ?_
    refine va_get (D := D) (ci := 5) (v := .ref qu) (C := RX5) (T := TX5) (N := 4) hx hb hts wc_X5_raftFact_X5 hown hK hP 0 rfl rfl 0 (by decide) (hts _ wd_X5_raftFact_4) (fun _ h9 => h9) rfl dX5_raftFact_45 ?_
    refine va_get (D := D) (ci := 2) (v := .ref wh) (C := RX2) (T := TX2) (N := 5) hx hb hts wc_X5_raftFact_X2 hown hK hP 1 rfl rfl 3 (by decide) (hts _ wd_X5_raftFact_6) (fun _ h9 => h9) rfl dX5_raftFact_48 ?_
    refine lv_iload_n hx hb dX5_raftFact_51 rfl (lv_at hl 1 rfl) ?_
    refine va_calli (va_runV (As := [.int (nI k)]) (rest := []) ⟨hx, hb, hml, hown, hts⟩ (met_X4_numberOn l D cI cZ cL wh wh0 wh1 wh2 wh3 wh4 wh5 nw (Q 14) (nI k) (by first | assumption | omega)) (cwV 1 hts gX5_raftFact_X4_numberOn rfl rfl rfl (by decide +kernel) ⟨Nat.le_of_ble_eq_true rfl, Nat.le_of_ble_eq_true rfl⟩) (gw_pvr hK hP (wc := [(wh, .inr (4, [.ref wh0, .ref wh1, .ref wh2, .ref wh3, .ref wh4, .ref wh5, .int (nI nw)])), (wh5, .inl (cI, 60, .inl (Q 14)))]) [2, 4] rfl 4 rfl rfl rfl) rfl rfl hl.1 rfl (lv_room (Nat.le_of_ble_eq_true rfl)) dX5_raftFact_52 ⟨Nat.zero_le _, Nat.zero_le _⟩) hS (fun _ _ z => z.elim) (fun _ z => z.elim) (fun r_4 _ t H1 locs ht hvm hw hB hz1 hk1 hS => ?_)
    have hP := gw_ro hP hk1
    generalize H1 = H at hP hS ⊢
    subst hw
    exact W.iret (v := gS (fun j => if (Q 14) j = (nI k) then 1 else 0) nw 0 0) hx hb hr (fun t ht hW => ⟨⟨_, (), rfl, rfl, trivial⟩, hS.F ht⟩) hS.2.2 dX5_raftFact_55
  · skip
    refine lv_tableOut (tgt := 56) hx hb dX5_raftFact_1 (by decide) (by decide) ?_
    refine lv_aload_n hx hb dX5_raftFact_56 rfl (lv_at hl 0 rfl) ?_
    refine va_get (D := D) (ci := 5) (v := .ref rf) (C := RX5) (T := TX5) (N := 4) hx hb hts wc_X5_raftFact_X5 hown hK hP 0 rfl rfl 2 (by decide) (hts _ wd_X5_raftFact_1) (fun _ h9 => h9) rfl dX5_raftFact_57 ?_
    refine lv_iload_n hx hb dX5_raftFact_60 rfl (lv_at hl 1 rfl) ?_
    refine lv_aload_n hx hb dX5_raftFact_61 rfl (lv_at hl 0 rfl) ?_
    refine va_get (D := D) (ci := 5) (v := .ref qu) (C := RX5) (T := TX5) (N := 4) hx hb hts wc_X5_raftFact_X5 hown hK hP 0 rfl rfl 0 (by decide) (hts _ wd_X5_raftFact_4) (fun _ h9 => h9) rfl dX5_raftFact_62 ?_
    refine va_get (D := D) (ci := 2) (v := .int (nI day)) (C := RX2) (T := TX2) (N := 5) hx hb hts wc_X5_raftFact_X2 hown hK hP 1 rfl rfl 4 (by decide) (hts _ wd_X5_raftFact_7) (fun _ h9 => h9) rfl dX5_raftFact_65 ?_
    refine va_calli (va_runV (As := [.int (nI k), .int (nI day)]) (rest := []) ⟨hx, hb, hml, hown, hts⟩ (met_X3_isAway l D cI cZ cL rf rf0 rf1 nr bo k day (by first | assumption | omega)) (cwV 2 hts gX5_raftFact_X3_isAway rfl rfl rfl (by decide +kernel) ⟨Nat.le_of_ble_eq_true rfl, Nat.le_of_ble_eq_true rfl⟩) (gw_pvr hK hP (wc := [(rf, .inr (3, [.ref rf0, .ref rf1, .int (nI nr)])), (rf1, .inl (cI, 3, .inl bo))]) [5, 7] rfl 3 rfl rfl rfl) rfl rfl hl.1 rfl (lv_room (Nat.le_of_ble_eq_true rfl)) dX5_raftFact_68 ⟨Nat.zero_le _, Nat.zero_le _⟩) hS (fun _ _ z => z.elim) (fun _ z => z.elim) (fun r_6 _ t H1 locs ht hvm hw hB hz1 hk1 hS => ?_)
    have hP := gw_ro hP hk1
    generalize H1 = H at hP hS ⊢
    rcases hw with ⟨rfl, hc⟩ | ⟨rfl, hc⟩
    · skip
      refine lv_if_eq (tgt := 78) hx hb dX5_raftFact_71 (by decide) (fun c_8 => False.elim (by revert c_8; decide)) (fun _ => ?_)
      refine lv_iconst (v := 1) hx hb dX5_raftFact_74 (by decide) ?_
      refine lv_goto (tgt := 79) hx hb dX5_raftFact_75 (by decide) ?_
      exact W.iret (v := 1) hx hb hr (fun t ht hW => ⟨⟨_, (), rfl, (by simp [gRaft, hc]), trivial⟩, hS.F ht⟩) hS.2.2 dX5_raftFact_79
    · skip
      refine lv_if_eq (tgt := 78) hx hb dX5_raftFact_71 (by decide) (fun _ => ?_) (fun c_9 => False.elim (by revert c_9; decide))
      refine lv_iconst (v := 0) hx hb dX5_raftFact_78 (by decide) ?_
      exact W.iret (v := 0) hx hb hr (fun t ht hW => ⟨⟨_, (), rfl, (by simp [gRaft, hc]), trivial⟩, hS.F ht⟩) hS.2.2 dX5_raftFact_79
