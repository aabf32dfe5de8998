/-! Sim's small methods. -/
theorem sw_2 {sz gr st cr : Int32} (h0 : 0 ≤ st) (h1 : ¬ st = 4) : gWorth sz gr st cr = if cr = 0 then (if st ≤ 0 then (10 - gr) * sz else (10 - gr) * sz * 3) else (if st ≤ 0 then (10 - gr) * sz else (10 - gr) * sz * 3) / 5 := by
  have e : (st ≤ 0) = (st = 0) := propext ⟨fun h => Int32.le_antisymm h h0, fun h => by rw [h]; exact Int32.le_refl 0⟩
  unfold gWorth
  rw [if_neg h1, Int32.mul_comm (10 - gr) sz, Int32.mul_comm (sz * (10 - gr)) 3]
  simp only [e]

theorem wc_X6_water_X6 : ∀ w ∈ u_ws RX6 TX6 8, w ∈ wsX6_water := by decide +kernel
theorem wd_X6_water_1 : (.fieldLink RX6 7 "GritWheelsLaw$Sim" "fall" "[I" : Cond) ∈ wsX6_water := by decide +kernel
theorem wd_X6_water_2 : (.fieldLink RX6 47 "GritWheelsLaw$Sim" "day" "I" : Cond) ∈ wsX6_water := by decide +kernel
set_option maxHeartbeats 4000000 in
set_option maxRecDepth 100000 in
theorem met_X6_water (l : Launch) (D : va_G) (cI cZ cW cO : ClassId) (si fa ob op oc ow : Nat) (ad : Nat × Nat → Nat) (nb nq nr nw day : Nat) (co : Int32) (q0 q1 q2 q3 q4 q5 q6 q7 q8 q9 qb qc qd ca sv rl : Nat → Int32) (R : va_W) (hd : day < 2 ^ 31) : Met l yX6_water wsX6_water ({ frames := 0, cells := 0, slots := 0, locals := 0 }) (gPr [.ref si] D (sW si fa ob op oc ow cI cW cO q0 nb nq nr (sRf ad 0 nb) (sRf ad 1 nq) (sRf ad 2 nr) (sRf ad 3 nw) (nI nw) (nI day) co ++ (R ++ sPl nb nq nr nw ad (sEn cI q1 q2 q3 q4 q5 q6 q7 q8 q9 qb qc qd ca sv rl))) (sT cI cZ cW cO)) (va_Qi (fun (zr : Int32) (_ : Unit) => zr = q0 (day % 9)) (fun _ _ => True) gN) 0 0 gN := by
  refine Met.ofW (cc := cX6_water) (maxL := 1) (ret := (some .int)) (by decide +kernel) rfl ?_
  intro p e s m args below meth c s₁ B hml hv
  obtain ⟨rfl, hP, hK⟩ := hv
  have hx := B.exec
  have hb := B.bytes
  have hr := B.returns
  have hts := atoms_spec (ws := wsX6_water) B.pre
  have hown : s.vm.findClass RX6 = some m.cls := findClass_of_methodNamed B.named
  have hlocks := B.notSynchronized
  have hS : va_S gN s.heap s.heap [] := va_S.rf
  have hP : va_P D vwCl (sW si fa ob op oc ow cI cW cO q0 nb nq nr (sRf ad 0 nb) (sRf ad 1 nq) (sRf ad 2 nr) (sRf ad 3 nw) (nI nw) (nI day) co ++ (R ++ sPl nb nq nr nw ad (sEn cI q1 q2 q3 q4 q5 q6 q7 q8 q9 qb qc qd ca sv rl))) s.heap := hP
  have hl := lv_entry ([.ref si]) (n := 1) (Nat.le_of_ble_eq_true rfl)
  rw [lg_entry_eq]
  generalize (lg_sl ([.ref si]) ++ List.replicate (1 - (lg_sl ([.ref si])).length) Slot.unset).toArray = ls at hl ⊢
  have hl : lv_has ls 1 [(0, .ref si)] := hl
  refine lv_aload_n hx hb dX6_water_0 rfl (lv_at hl 0 rfl) ?_
  refine va_get (D := D) (ci := 6) (v := .ref fa) (C := RX6) (T := TX6) (N := 8) hx hb hts wc_X6_water_X6 hown hK hP 0 rfl rfl 0 (by decide) (hts _ wd_X6_water_1) (fun _ h9 => h9) rfl dX6_water_1 ?_
  refine lv_aload_n hx hb dX6_water_4 rfl (lv_at hl 0 rfl) ?_
  refine va_get (D := D) (ci := 6) (v := .int (nI day)) (C := RX6) (T := TX6) (N := 8) hx hb hts wc_X6_water_X6 hown hK hP 0 rfl rfl 6 (by decide) (hts _ wd_X6_water_2) (fun _ h9 => h9) rfl dX6_water_5 ?_
  refine lv_bipush (v := 9) hx hb dX6_water_8 (by decide) ?_
  refine lv_irem hx hb dX6_water_10 (by decide) ?_
  refine gw_top (y := nI (day % 9)) (pk_rem hd (by decide) (by decide)) ?_
  refine gw_iald hx hb hK hP 1 0 (k := day % 9) rfl rfl (Nat.mod_lt _ (by decide)) (by decide) dX6_water_11 ?_
  exact W.iret (v := q0 (day % 9)) hx hb hr (fun t ht hW => ⟨⟨_, (), rfl, rfl, trivial⟩, hS.F ht⟩) hS.2.2 dX6_water_12

theorem wc_X6_weight_X7 : ∀ w ∈ u_ws RX7 TX7 5, w ∈ wsX6_weight := by decide +kernel
theorem wd_X6_weight_1 : (.fieldLink RX6 54 "GritWheelsLaw$Wheel" "size" "I" : Cond) ∈ wsX6_weight := by decide +kernel
set_option maxHeartbeats 4000000 in
set_option maxRecDepth 100000 in
theorem met_X6_weight (l : Launch) (D : va_G) (cI cZ cW cO : ClassId) (si fa ob op oc ow : Nat) (ad : Nat × Nat → Nat) (nb nq nr nw day : Nat) (co : Int32) (q0 q1 q2 q3 q4 q5 q6 q7 q8 q9 qb qc qd ca sv rl : Nat → Int32) (R : va_W) (k : Nat) (hk : k < nw) : Met l yX6_weight wsX6_weight ({ frames := 0, cells := 0, slots := 0, locals := 0 }) (gPr [.ref si, .ref (ad (3, k))] D (sW si fa ob op oc ow cI cW cO q0 nb nq nr (sRf ad 0 nb) (sRf ad 1 nq) (sRf ad 2 nr) (sRf ad 3 nw) (nI nw) (nI day) co ++ (R ++ sPl nb nq nr nw ad (sEn cI q1 q2 q3 q4 q5 q6 q7 q8 q9 qb qc qd ca sv rl))) (sT cI cZ cW cO)) (va_Qi (fun (zr : Int32) (_ : Unit) => zr = qb k * qb k * 2) (fun _ _ => True) gN) 0 0 gN := by
  refine Met.ofW (cc := cX6_weight) (maxL := 2) (ret := (some .int)) (by decide +kernel) rfl ?_
  intro p e s m args below meth c s₁ B hml hv
  obtain ⟨rfl, hP, hK⟩ := hv
  have hx := B.exec
  have hb := B.bytes
  have hr := B.returns
  have hts := atoms_spec (ws := wsX6_weight) B.pre
  have hown : s.vm.findClass RX6 = some m.cls := findClass_of_methodNamed B.named
  have hlocks := B.notSynchronized
  have hS : va_S gN s.heap s.heap [] := va_S.rf
  have hP : va_P D vwCl (sW si fa ob op oc ow cI cW cO q0 nb nq nr (sRf ad 0 nb) (sRf ad 1 nq) (sRf ad 2 nr) (sRf ad 3 nw) (nI nw) (nI day) co ++ (R ++ sPl nb nq nr nw ad (sEn cI q1 q2 q3 q4 q5 q6 q7 q8 q9 qb qc qd ca sv rl))) s.heap := hP
  have hl := lv_entry ([.ref si, .ref (ad (3, k))]) (n := 2) (Nat.le_of_ble_eq_true rfl)
  rw [lg_entry_eq]
  generalize (lg_sl ([.ref si, .ref (ad (3, k))]) ++ List.replicate (2 - (lg_sl ([.ref si, .ref (ad (3, k))])).length) Slot.unset).toArray = ls at hl ⊢
  have hl : lv_has ls 2 [(0, .ref si), (1, .ref (ad (3, k)))] := hl
  refine lv_aload_n hx hb dX6_weight_0 rfl (lv_at hl 1 rfl) ?_
  obtain ⟨i_1, hi_1, si_1⟩ := sAt3 (k := k) hP (by first | assumption | omega)
  refine va_get (D := D) (ci := 7) (v := .int (qb k)) (C := RX7) (T := TX7) (N := 5) hx hb hts wc_X6_weight_X7 hown hK hP i_1 hi_1 rfl 1 (by decide) (hts _ wd_X6_weight_1) (fun _ h9 => h9) rfl dX6_weight_1 ?_
  refine lv_aload_n hx hb dX6_weight_4 rfl (lv_at hl 1 rfl) ?_
  obtain ⟨i_2, hi_2, si_2⟩ := sAt3 (k := k) hP (by first | assumption | omega)
  refine va_get (D := D) (ci := 7) (v := .int (qb k)) (C := RX7) (T := TX7) (N := 5) hx hb hts wc_X6_weight_X7 hown hK hP i_2 hi_2 rfl 1 (by decide) (hts _ wd_X6_weight_1) (fun _ h9 => h9) rfl dX6_weight_5 ?_
  refine lv_imul hx hb dX6_weight_8 ?_
  refine lv_iconst (v := 2) hx hb dX6_weight_9 (by decide) ?_
  refine lv_imul hx hb dX6_weight_10 ?_
  exact W.iret (v := ((qb k) * (qb k)) * 2) hx hb hr (fun t ht hW => ⟨⟨_, (), rfl, rfl, trivial⟩, hS.F ht⟩) hS.2.2 dX6_weight_11

theorem wc_X6_worth_X7 : ∀ w ∈ u_ws RX7 TX7 5, w ∈ wsX6_worth := by decide +kernel
theorem wd_X6_worth_1 : (.fieldLink RX6 65 "GritWheelsLaw$Wheel" "state" "I" : Cond) ∈ wsX6_worth := by decide +kernel
theorem wc_X6_worth_X6 : ∀ w ∈ u_ws RX6 TX6 8, w ∈ wsX6_worth := by decide +kernel
theorem wd_X6_worth_3 : (.fieldLink RX6 14 "GritWheelsLaw$Sim" "beds" "[[I" : Cond) ∈ wsX6_worth := by decide +kernel
theorem wd_X6_worth_4 : (.fieldLink RX6 51 "GritWheelsLaw$Wheel" "bed" "I" : Cond) ∈ wsX6_worth := by decide +kernel
theorem wd_X6_worth_5 : (.fieldLink RX6 54 "GritWheelsLaw$Wheel" "size" "I" : Cond) ∈ wsX6_worth := by decide +kernel
theorem wd_X6_worth_6 : (.fieldLink RX6 57 "GritWheelsLaw$Wheel" "hasCrack" "Z" : Cond) ∈ wsX6_worth := by decide +kernel
set_option maxHeartbeats 4000000 in
set_option maxRecDepth 100000 in
theorem met_X6_worth (l : Launch) (D : va_G) (cI cZ cW cO : ClassId) (si fa ob op oc ow : Nat) (ad : Nat × Nat → Nat) (nb nq nr nw day : Nat) (co : Int32) (q0 q1 q2 q3 q4 q5 q6 q7 q8 q9 qb qc qd ca sv rl : Nat → Int32) (R : va_W) (k : Nat) (b : Nat) (hk : k < nw) (hb : b < nb) (hnb : nb ≤ 5) (hb9 : q9 k = nI b) (hst : 0 ≤ qd k) : Met l yX6_worth wsX6_worth ({ frames := 0, cells := 0, slots := 0, locals := 0 }) (gPr [.ref si, .ref (ad (3, k))] D (sW si fa ob op oc ow cI cW cO q0 nb nq nr (sRf ad 0 nb) (sRf ad 1 nq) (sRf ad 2 nr) (sRf ad 3 nw) (nI nw) (nI day) co ++ (R ++ sPl nb nq nr nw ad (sEn cI q1 q2 q3 q4 q5 q6 q7 q8 q9 qb qc qd ca sv rl))) (sT cI cZ cW cO)) (va_Qi (fun (zr : Int32) (_ : Unit) => zr = gWorth (qb k) (q1 b) (qd k) (qc k)) (fun _ _ => True) gN) 0 0 gN := by
  refine Met.ofW (cc := cX6_worth) (maxL := 3) (ret := (some .int)) (by decide +kernel) rfl ?_
  intro p e s m args below meth c s₁ B hml hv
  obtain ⟨rfl, hP, hK⟩ := hv
  have hx := B.exec
  have hb := B.bytes
  have hr := B.returns
  have hts := atoms_spec (ws := wsX6_worth) B.pre
  have hown : s.vm.findClass RX6 = some m.cls := findClass_of_methodNamed B.named
  have hlocks := B.notSynchronized
  have hS : va_S gN s.heap s.heap [] := va_S.rf
  have hP : va_P D vwCl (sW si fa ob op oc ow cI cW cO q0 nb nq nr (sRf ad 0 nb) (sRf ad 1 nq) (sRf ad 2 nr) (sRf ad 3 nw) (nI nw) (nI day) co ++ (R ++ sPl nb nq nr nw ad (sEn cI q1 q2 q3 q4 q5 q6 q7 q8 q9 qb qc qd ca sv rl))) s.heap := hP
  have hl := lv_entry ([.ref si, .ref (ad (3, k))]) (n := 3) (Nat.le_of_ble_eq_true rfl)
  rw [lg_entry_eq]
  generalize (lg_sl ([.ref si, .ref (ad (3, k))]) ++ List.replicate (3 - (lg_sl ([.ref si, .ref (ad (3, k))])).length) Slot.unset).toArray = ls at hl ⊢
  have hl : lv_has ls 3 [(0, .ref si), (1, .ref (ad (3, k)))] := hl
  refine lv_aload_n hx hb dX6_worth_0 rfl (lv_at hl 1 rfl) ?_
  obtain ⟨i_1, hi_1, si_1⟩ := sAt3 (k := k) hP (by first | assumption | omega)
  refine va_get (D := D) (ci := 7) (v := .int (qd k)) (C := RX7) (T := TX7) (N := 5) hx hb hts wc_X6_worth_X7 hown hK hP i_1 hi_1 rfl 3 (by decide) (hts _ wd_X6_worth_1) (fun _ h9 => h9) rfl dX6_worth_1 ?_
  refine lv_iconst (v := 4) hx hb dX6_worth_4 (by decide) ?_
  refine lv_icmp_ne (tgt := 10) hx hb dX6_worth_5 (by decide) (fun h1 => ?_) (fun h1 => ?_)
  · skip
    refine lv_bipush (v := 10) hx hb dX6_worth_10 (by decide) ?_
    refine lv_aload_n hx hb dX6_worth_12 rfl (lv_at hl 0 rfl) ?_
    refine va_get (D := D) (ci := 6) (v := .ref ob) (C := RX6) (T := TX6) (N := 8) hx hb hts wc_X6_worth_X6 hown hK hP 0 rfl rfl 1 (by decide) (hts _ wd_X6_worth_3) (fun _ h9 => h9) rfl dX6_worth_13 ?_
    refine lv_aload_n hx hb dX6_worth_16 rfl (lv_at hl 1 rfl) ?_
    obtain ⟨i_3, hi_3, si_3⟩ := sAt3 (k := k) hP (by first | assumption | omega)
    refine va_get (D := D) (ci := 7) (v := .int (q9 k)) (C := RX7) (T := TX7) (N := 5) hx hb hts wc_X6_worth_X7 hown hK hP i_3 hi_3 rfl 0 (by decide) (hts _ wd_X6_worth_4) (fun _ h9 => h9) rfl dX6_worth_17 ?_
    refine gw_top (y := nI b) hb9 ?_
    refine gw_aldA hx hb hK hP 2 3 (k := b) (v := ad (0, b)) rfl rfl (sRf_at (by first | assumption | omega)) (by first | assumption | omega) (by omega) dX6_worth_20 ?_
    refine lv_iconst (v := 0) hx hb dX6_worth_21 (by decide) ?_
    obtain ⟨i_4, hi_4, si_4⟩ := sAt0 (k := b) hP (by first | assumption | omega)
    refine gw_top (y := nI 0) rfl ?_
    refine gw_iald hx hb hK hP i_4 0 (k := 0) hi_4 rfl (by first | decide | omega) (by decide) dX6_worth_22 ?_
    refine gw_top (y := q1 b) rfl ?_
    refine lv_isub hx hb dX6_worth_23 ?_
    refine lv_aload_n hx hb dX6_worth_24 rfl (lv_at hl 1 rfl) ?_
    obtain ⟨i_5, hi_5, si_5⟩ := sAt3 (k := k) hP (by first | assumption | omega)
    refine va_get (D := D) (ci := 7) (v := .int (qb k)) (C := RX7) (T := TX7) (N := 5) hx hb hts wc_X6_worth_X7 hown hK hP i_5 hi_5 rfl 1 (by decide) (hts _ wd_X6_worth_5) (fun _ h9 => h9) rfl dX6_worth_25 ?_
    refine lv_imul hx hb dX6_worth_28 ?_
    refine lv_istore_n (lv' := [(2, .int ((10 - (q1 b)) * (qb k))), (0, .ref si), (1, .ref (ad (3, k)))]) hx hb dX6_worth_29 rfl hl (by decide) rfl (fun ls hl => ?_)
    refine lv_aload_n hx hb dX6_worth_30 rfl (lv_at hl 2 rfl) ?_
    obtain ⟨i_6, hi_6, si_6⟩ := sAt3 (k := k) hP (by first | assumption | omega)
    refine va_get (D := D) (ci := 7) (v := .int (qd k)) (C := RX7) (T := TX7) (N := 5) hx hb hts wc_X6_worth_X7 hown hK hP i_6 hi_6 rfl 3 (by decide) (hts _ wd_X6_worth_1) (fun _ h9 => h9) rfl dX6_worth_31 ?_
    refine lv_if_le (tgt := 41) hx hb dX6_worth_34 (by decide) (fun h2 => ?_) (fun h2 => ?_)
    · skip
      refine lv_aload_n hx hb dX6_worth_41 rfl (lv_at hl 2 rfl) ?_
      obtain ⟨i_8, hi_8, si_8⟩ := sAt3 (k := k) hP (by first | assumption | omega)
      refine va_get (D := D) (ci := 7) (v := .int (qc k)) (C := RX7) (T := TX7) (N := 5) hx hb hts wc_X6_worth_X7 hown hK hP i_8 hi_8 rfl 2 (by decide) (hts _ wd_X6_worth_6) (fun _ h9 => h9) rfl dX6_worth_42 ?_
      refine lv_if_eq (tgt := 54) hx hb dX6_worth_45 (by decide) (fun h3 => ?_) (fun h3 => ?_)
      · skip
        refine lv_iload_n hx hb dX6_worth_54 rfl (lv_at hl 0 rfl) ?_
        exact W.iret (v := (10 - (q1 b)) * (qb k)) hx hb hr (fun t ht hW => ⟨⟨_, (), rfl, (by rw [sw_2 hst h1]; simp [h2, h3]), trivial⟩, hS.F ht⟩) hS.2.2 dX6_worth_55
      · skip
        refine lv_iload_n hx hb dX6_worth_48 rfl (lv_at hl 0 rfl) ?_
        refine lv_iconst (v := 5) hx hb dX6_worth_49 (by decide) ?_
        refine lv_idiv hx hb dX6_worth_50 (by decide) ?_
        refine lv_goto (tgt := 55) hx hb dX6_worth_51 (by decide) ?_
        exact W.iret (v := ((10 - (q1 b)) * (qb k)) / 5) hx hb hr (fun t ht hW => ⟨⟨_, (), rfl, (by rw [sw_2 hst h1]; simp [h2, h3]), trivial⟩, hS.F ht⟩) hS.2.2 dX6_worth_55
    · skip
      refine lv_iload_n hx hb dX6_worth_37 rfl (lv_at hl 0 rfl) ?_
      refine lv_iconst (v := 3) hx hb dX6_worth_38 (by decide) ?_
      refine lv_imul hx hb dX6_worth_39 ?_
      refine lv_istore_n (lv' := [(2, .int (((10 - (q1 b)) * (qb k)) * 3)), (0, .ref si), (1, .ref (ad (3, k)))]) hx hb dX6_worth_40 rfl hl (by decide) rfl (fun ls hl => ?_)
      refine lv_aload_n hx hb dX6_worth_41 rfl (lv_at hl 2 rfl) ?_
      obtain ⟨i_10, hi_10, si_10⟩ := sAt3 (k := k) hP (by first | assumption | omega)
      refine va_get (D := D) (ci := 7) (v := .int (qc k)) (C := RX7) (T := TX7) (N := 5) hx hb hts wc_X6_worth_X7 hown hK hP i_10 hi_10 rfl 2 (by decide) (hts _ wd_X6_worth_6) (fun _ h9 => h9) rfl dX6_worth_42 ?_
      refine lv_if_eq (tgt := 54) hx hb dX6_worth_45 (by decide) (fun h3 => ?_) (fun h3 => ?_)
      · skip
        refine lv_iload_n hx hb dX6_worth_54 rfl (lv_at hl 0 rfl) ?_
        exact W.iret (v := ((10 - (q1 b)) * (qb k)) * 3) hx hb hr (fun t ht hW => ⟨⟨_, (), rfl, (by rw [sw_2 hst h1]; simp [h2, h3]), trivial⟩, hS.F ht⟩) hS.2.2 dX6_worth_55
      · skip
        refine lv_iload_n hx hb dX6_worth_48 rfl (lv_at hl 0 rfl) ?_
        refine lv_iconst (v := 5) hx hb dX6_worth_49 (by decide) ?_
        refine lv_idiv hx hb dX6_worth_50 (by decide) ?_
        refine lv_goto (tgt := 55) hx hb dX6_worth_51 (by decide) ?_
        exact W.iret (v := (((10 - (q1 b)) * (qb k)) * 3) / 5) hx hb hr (fun t ht hW => ⟨⟨_, (), rfl, (by rw [sw_2 hst h1]; simp [h2, h3]), trivial⟩, hS.F ht⟩) hS.2.2 dX6_worth_55
  · skip
    refine lv_iconst (v := 0) hx hb dX6_worth_8 (by decide) ?_
    exact W.iret (v := 0) hx hb hr (fun t ht hW => ⟨⟨_, (), rfl, (by simp [gWorth, h1]), trivial⟩, hS.F ht⟩) hS.2.2 dX6_worth_9

theorem wc_X6_left_X6 : ∀ w ∈ u_ws RX6 TX6 8, w ∈ wsX6_left := by decide +kernel
theorem wd_X6_left_1 : (.fieldLink RX6 21 "GritWheelsLaw$Sim" "rafts" "[[I" : Cond) ∈ wsX6_left := by decide +kernel
theorem wd_X6_left_2 : (.fieldLink RX6 39 "GritWheelsLaw$Sim" "many" "I" : Cond) ∈ wsX6_left := by decide +kernel
theorem wd_X6_left_3 : (.fieldLink RX6 26 "GritWheelsLaw$Sim" "wheels" "[LGritWheelsLaw$Wheel;" : Cond) ∈ wsX6_left := by decide +kernel
theorem wc_X6_left_X7 : ∀ w ∈ u_ws RX7 TX7 5, w ∈ wsX6_left := by decide +kernel
theorem wd_X6_left_5 : (.fieldLink RX6 65 "GritWheelsLaw$Wheel" "state" "I" : Cond) ∈ wsX6_left := by decide +kernel
theorem wd_X6_left_6 : (.fieldLink RX6 72 "GritWheelsLaw$Wheel" "raft" "I" : Cond) ∈ wsX6_left := by decide +kernel
set_option maxHeartbeats 4000000 in
set_option maxRecDepth 100000 in
theorem met_X6_left (l : Launch) (D : va_G) (cI cZ cW cO : ClassId) (si fa ob op oc ow : Nat) (ad : Nat × Nat → Nat) (nb nq nr nw day : Nat) (co : Int32) (q0 q1 q2 q3 q4 q5 q6 q7 q8 q9 qb qc qd ca sv rl : Nat → Int32) (R : va_W) (r : Nat) (hr2 : r < nr) (hnr : nr ≤ 3) (hnw : nw ≤ 60) : Met l yX6_left wsX6_left ({ frames := 1, cells := 0, slots := 0, locals := 21 }) (gPr [.ref si, .int (nI r)] D (sW si fa ob op oc ow cI cW cO q0 nb nq nr (sRf ad 0 nb) (sRf ad 1 nq) (sRf ad 2 nr) (sRf ad 3 nw) (nI nw) (nI day) co ++ (R ++ sPl nb nq nr nw ad (sEn cI q1 q2 q3 q4 q5 q6 q7 q8 q9 qb qc qd ca sv rl))) (sT cI cZ cW cO)) (va_Qi (fun (zr : Int32) (_ : Unit) => zr = ca r - gS (fun j => if qd j = 2 then (if rl j = nI r then qb j * qb j * 2 else 0) else 0) nw 0 0) (fun _ _ => True) gN) 0 0 gN := by
  refine Met.ofW (cc := cX6_left) (maxL := 4) (ret := (some .int)) (by decide +kernel) rfl ?_
  intro p e s m args below meth c s₁ B hml hv
  obtain ⟨rfl, hP, hK⟩ := hv
  have hx := B.exec
  have hb := B.bytes
  have hr := B.returns
  have hts := atoms_spec (ws := wsX6_left) B.pre
  have hown : s.vm.findClass RX6 = some m.cls := findClass_of_methodNamed B.named
  have hlocks := B.notSynchronized
  have hS : va_S gN s.heap s.heap [] := va_S.rf
  have hP : va_P D vwCl (sW si fa ob op oc ow cI cW cO q0 nb nq nr (sRf ad 0 nb) (sRf ad 1 nq) (sRf ad 2 nr) (sRf ad 3 nw) (nI nw) (nI day) co ++ (R ++ sPl nb nq nr nw ad (sEn cI q1 q2 q3 q4 q5 q6 q7 q8 q9 qb qc qd ca sv rl))) s.heap := hP
  have hl := lv_entry ([.ref si, .int (nI r)]) (n := 4) (Nat.le_of_ble_eq_true rfl)
  rw [lg_entry_eq]
  generalize (lg_sl ([.ref si, .int (nI r)]) ++ List.replicate (4 - (lg_sl ([.ref si, .int (nI r)])).length) Slot.unset).toArray = ls at hl ⊢
  have hl : lv_has ls 4 [(0, .ref si), (1, .int (nI r))] := hl
  refine lv_aload_n hx hb dX6_left_0 rfl (lv_at hl 0 rfl) ?_
  refine va_get (D := D) (ci := 6) (v := .ref oc) (C := RX6) (T := TX6) (N := 8) hx hb hts wc_X6_left_X6 hown hK hP 0 rfl rfl 3 (by decide) (hts _ wd_X6_left_1) (fun _ h9 => h9) rfl dX6_left_1 ?_
  refine lv_iload_n hx hb dX6_left_4 rfl (lv_at hl 1 rfl) ?_
  refine gw_aldA hx hb hK hP 4 3 (k := r) (v := ad (2, r)) rfl rfl (sRf_at (by first | assumption | omega)) (by first | assumption | omega) (by omega) dX6_left_5 ?_
  refine lv_iconst (v := 0) hx hb dX6_left_6 (by decide) ?_
  obtain ⟨i_1, hi_1, si_1⟩ := sAt2 (k := r) hP (by first | assumption | omega)
  refine gw_top (y := nI 0) rfl ?_
  refine gw_iald hx hb hK hP i_1 0 (k := 0) hi_1 rfl (by first | decide | omega) (by decide) dX6_left_7 ?_
  refine gw_top (y := ca r) rfl ?_
  refine lv_istore_n (lv' := [(2, .int (ca r)), (0, .ref si), (1, .int (nI r))]) hx hb dX6_left_8 rfl hl (by decide) rfl (fun ls hl => ?_)
  refine lv_iconst (v := 0) hx hb dX6_left_9 (by decide) ?_
  refine lv_istore_n (lv' := [(3, .int 0), (2, .int (ca r)), (0, .ref si), (1, .int (nI r))]) hx hb dX6_left_10 rfl hl (by decide) rfl (fun ls hl => ?_)
  refine gw_loop (fun (zz : Nat × Nat × Int32) H locs ls => match zz with | (k, i, acc) => va_P D vwCl (sW si fa ob op oc ow cI cW cO q0 nb nq nr (sRf ad 0 nb) (sRf ad 1 nq) (sRf ad 2 nr) (sRf ad 3 nw) (nI nw) (nI day) co ++ (R ++ sPl nb nq nr nw ad (sEn cI q1 q2 q3 q4 q5 q6 q7 q8 q9 qb qc qd ca sv rl))) H ∧ va_S gN s.heap H locs ∧ lv_has ls 4 [(3, .int (nI i)), (2, .int acc), (0, .ref si), (1, .int (nI r))] ∧ (i + k = nw) ∧ (gSub (fun j => if qd j = 2 then (if rl j = nI r then qb j * qb j * 2 else 0) else 0) k i acc = gSub (fun j => if qd j = 2 then (if rl j = nI r then qb j * qb j * 2 else 0) else 0) nw 0 (ca r))) (fun (zz : Nat × Nat × Int32) => match zz with | (k, i, acc) => k) (nw, 0, ca r) ⟨hP, hS, lv_sub hl [0, 1, 2, 3] rfl, (by omega), rfl⟩ ?_
  rintro ⟨k, i, acc⟩ ih H locs ls ⟨hP, hS, hl, hin, hF⟩
  have hP : va_P D vwCl (sW si fa ob op oc ow cI cW cO q0 nb nq nr (sRf ad 0 nb) (sRf ad 1 nq) (sRf ad 2 nr) (sRf ad 3 nw) (nI nw) (nI day) co ++ (R ++ sPl nb nq nr nw ad (sEn cI q1 q2 q3 q4 q5 q6 q7 q8 q9 qb qc qd ca sv rl))) H := hP
  have hl : lv_has ls 4 [(3, .int (nI i)), (2, .int acc), (0, .ref si), (1, .int (nI r))] := hl
  have hin : i + k = nw := hin
  have hF : gSub (fun j => if qd j = 2 then (if rl j = nI r then qb j * qb j * 2 else 0) else 0) k i acc = gSub (fun j => if qd j = 2 then (if rl j = nI r then qb j * qb j * 2 else 0) else 0) nw 0 (ca r) := hF
  have ih11 := ih
  refine lv_iload_n hx hb dX6_left_11 rfl (lv_at hl 0 rfl) ?_
  refine lv_aload_n hx hb dX6_left_12 rfl (lv_at hl 2 rfl) ?_
  refine va_get (D := D) (ci := 6) (v := .int (nI nw)) (C := RX6) (T := TX6) (N := 8) hx hb hts wc_X6_left_X6 hown hK hP 0 rfl rfl 5 (by decide) (hts _ wd_X6_left_2) (fun _ h9 => h9) rfl dX6_left_13 ?_
  refine lv_icmp_ge (tgt := 64) hx hb dX6_left_16 (by decide) (fun c => ?_) (fun c => ?_)
  · skip
    have hk0 : k = 0 := by have := gw_ge (by omega) (by omega) c; omega
    subst hk0
    refine lv_iload_n hx hb dX6_left_64 rfl (lv_at hl 1 rfl) ?_
    exact W.iret (v := acc) hx hb hr (fun t ht hW => ⟨⟨_, (), rfl, (hF.trans (gSub_eq _ _ _ _)), trivial⟩, hS.F ht⟩) hS.2.2 dX6_left_65
  · skip
    have hi : i < nw := gw_lt (by omega) (by omega) c
    obtain ⟨k, rfl⟩ : ∃ k2, k = k2 + 1 := ⟨k - 1, by omega⟩
    refine lv_aload_n hx hb dX6_left_19 rfl (lv_at hl 2 rfl) ?_
    refine va_get (D := D) (ci := 6) (v := .ref ow) (C := RX6) (T := TX6) (N := 8) hx hb hts wc_X6_left_X6 hown hK hP 0 rfl rfl 4 (by decide) (hts _ wd_X6_left_3) (fun _ h9 => h9) rfl dX6_left_20 ?_
    refine lv_iload_n hx hb dX6_left_23 rfl (lv_at hl 0 rfl) ?_
    refine gw_aldW hx hb hK hP 5 2 (k := i) (v := ad (3, i)) rfl rfl (sRf_at (by first | assumption | omega)) (by omega) (by omega) dX6_left_24 ?_
    obtain ⟨i_3, hi_3, si_3⟩ := sAt3 (k := i) hP (by first | assumption | omega)
    refine va_get (D := D) (ci := 7) (v := .int (qd i)) (C := RX7) (T := TX7) (N := 5) hx hb hts wc_X6_left_X7 hown hK hP i_3 hi_3 rfl 3 (by decide) (hts _ wd_X6_left_5) (fun _ h9 => h9) rfl dX6_left_25 ?_
    refine lv_iconst (v := 2) hx hb dX6_left_28 (by decide) ?_
    refine lv_icmp_ne (tgt := 58) hx hb dX6_left_29 (by decide) (fun c2 => ?_) (fun c2 => ?_)
    · skip
      refine lv_iinc (v := nI (i + 1)) (lv' := [(3, .int (nI (i + 1))), (2, .int acc), (0, .ref si), (1, .int (nI r))]) hx hb dX6_left_58 hl (k := 0) rfl (nI_add i 1) (by decide) rfl (fun ls hl => ?_)
      refine lv_goto (tgt := 11) hx hb dX6_left_61 (by decide) ?_
      exact ih11 (k, i + 1, acc) H locs ls (by dsimp only; omega) ⟨hP, hS, lv_sub hl [0, 1, 2, 3] rfl, (by omega), (by first | exact hF | (rw [← hF]; simp [gSub, *]))⟩
    · skip
      refine lv_aload_n hx hb dX6_left_32 rfl (lv_at hl 2 rfl) ?_
      refine va_get (D := D) (ci := 6) (v := .ref ow) (C := RX6) (T := TX6) (N := 8) hx hb hts wc_X6_left_X6 hown hK hP 0 rfl rfl 4 (by decide) (hts _ wd_X6_left_3) (fun _ h9 => h9) rfl dX6_left_33 ?_
      refine lv_iload_n hx hb dX6_left_36 rfl (lv_at hl 0 rfl) ?_
      refine gw_aldW hx hb hK hP 5 2 (k := i) (v := ad (3, i)) rfl rfl (sRf_at (by first | assumption | omega)) (by omega) (by omega) dX6_left_37 ?_
      obtain ⟨i_5, hi_5, si_5⟩ := sAt3 (k := i) hP (by first | assumption | omega)
      refine va_get (D := D) (ci := 7) (v := .int (rl i)) (C := RX7) (T := TX7) (N := 5) hx hb hts wc_X6_left_X7 hown hK hP i_5 hi_5 rfl 4 (by decide) (hts _ wd_X6_left_6) (fun _ h9 => h9) rfl dX6_left_38 ?_
      refine lv_iload_n hx hb dX6_left_41 rfl (lv_at hl 3 rfl) ?_
      refine lv_icmp_ne (tgt := 58) hx hb dX6_left_42 (by decide) (fun c3 => ?_) (fun c3 => ?_)
      · skip
        refine lv_iinc (v := nI (i + 1)) (lv' := [(3, .int (nI (i + 1))), (2, .int acc), (0, .ref si), (1, .int (nI r))]) hx hb dX6_left_58 hl (k := 0) rfl (nI_add i 1) (by decide) rfl (fun ls hl => ?_)
        refine lv_goto (tgt := 11) hx hb dX6_left_61 (by decide) ?_
        exact ih11 (k, i + 1, acc) H locs ls (by dsimp only; omega) ⟨hP, hS, lv_sub hl [0, 1, 2, 3] rfl, (by omega), (by first | exact hF | (rw [← hF]; simp [gSub, *]))⟩
      · skip
        refine lv_iload_n hx hb dX6_left_45 rfl (lv_at hl 1 rfl) ?_
        refine lv_aload_n hx hb dX6_left_46 rfl (lv_at hl 2 rfl) ?_
        refine lv_aload_n hx hb dX6_left_47 rfl (lv_at hl 2 rfl) ?_
        refine va_get (D := D) (ci := 6) (v := .ref ow) (C := RX6) (T := TX6) (N := 8) hx hb hts wc_X6_left_X6 hown hK hP 0 rfl rfl 4 (by decide) (hts _ wd_X6_left_3) (fun _ h9 => h9) rfl dX6_left_48 ?_
        refine lv_iload_n hx hb dX6_left_51 rfl (lv_at hl 0 rfl) ?_
        refine gw_aldW hx hb hK hP 5 2 (k := i) (v := ad (3, i)) rfl rfl (sRf_at (by first | assumption | omega)) (by omega) (by omega) dX6_left_52 ?_
        refine va_calli (va_runV (As := [.ref (ad (3, i))]) (rest := [.int acc]) ⟨hx, hb, hml, hown, hts⟩ (met_X6_weight l D cI cZ cW cO si fa ob op oc ow ad nb nq nr nw day co q0 q1 q2 q3 q4 q5 q6 q7 q8 q9 qb qc qd ca sv rl R i (by first | assumption | omega)) (cwV 1 hts gX6_left_X6_weight rfl rfl rfl (by decide +kernel) ⟨Nat.le_of_ble_eq_true rfl, Nat.le_of_ble_eq_true rfl⟩) (gv_pvr hK hP 6 rfl rfl rfl) rfl rfl hl.1 rfl (lv_room (Nat.le_of_ble_eq_true rfl)) dX6_left_53 ⟨Nat.zero_le _, Nat.zero_le _⟩) hS (fun _ _ z => z.elim) (fun _ z => z.elim) (fun r_7 _ t H1 locs ht hvm hw hB hz1 hk1 hS => ?_)
        have hP := gw_ro hP hk1
        generalize H1 = H at hP hS ⊢
        subst hw
        refine lv_isub hx hb dX6_left_56 ?_
        refine lv_istore_n (lv' := [(2, .int (acc - (qb i * qb i * 2))), (3, .int (nI i)), (0, .ref si), (1, .int (nI r))]) hx hb dX6_left_57 rfl hl (by decide) rfl (fun ls hl => ?_)
        refine lv_iinc (v := nI (i + 1)) (lv' := [(3, .int (nI (i + 1))), (2, .int (acc - (qb i * qb i * 2))), (0, .ref si), (1, .int (nI r))]) hx hb dX6_left_58 hl (k := 1) rfl (nI_add i 1) (by decide) rfl (fun ls hl => ?_)
        refine lv_goto (tgt := 11) hx hb dX6_left_61 (by decide) ?_
        exact ih11 (k, i + 1, acc - (qb i * qb i * 2)) H locs ls (by dsimp only; omega) ⟨hP, hS, lv_sub hl [0, 1, 2, 3] rfl, (by omega), (by first | exact hF | (rw [← hF]; simp [gSub, *]))⟩

theorem wc_X6_in_X6 : ∀ w ∈ u_ws RX6 TX6 8, w ∈ wsX6_in := by decide +kernel
theorem wd_X6_in_1 : (.fieldLink RX6 39 "GritWheelsLaw$Sim" "many" "I" : Cond) ∈ wsX6_in := by decide +kernel
theorem wd_X6_in_2 : (.fieldLink RX6 26 "GritWheelsLaw$Sim" "wheels" "[LGritWheelsLaw$Wheel;" : Cond) ∈ wsX6_in := by decide +kernel
theorem wc_X6_in_X7 : ∀ w ∈ u_ws RX7 TX7 5, w ∈ wsX6_in := by decide +kernel
theorem wd_X6_in_4 : (.fieldLink RX6 65 "GritWheelsLaw$Wheel" "state" "I" : Cond) ∈ wsX6_in := by decide +kernel
set_option maxHeartbeats 4000000 in
set_option maxRecDepth 100000 in
theorem met_X6_in (l : Launch) (D : va_G) (cI cZ cW cO : ClassId) (si fa ob op oc ow : Nat) (ad : Nat × Nat → Nat) (nb nq nr nw day : Nat) (co : Int32) (q0 q1 q2 q3 q4 q5 q6 q7 q8 q9 qb qc qd ca sv rl : Nat → Int32) (R : va_W) (x : Int32) (hnw : nw ≤ 60) : Met l yX6_in wsX6_in ({ frames := 0, cells := 0, slots := 0, locals := 0 }) (gPr [.ref si, .int x] D (sW si fa ob op oc ow cI cW cO q0 nb nq nr (sRf ad 0 nb) (sRf ad 1 nq) (sRf ad 2 nr) (sRf ad 3 nw) (nI nw) (nI day) co ++ (R ++ sPl nb nq nr nw ad (sEn cI q1 q2 q3 q4 q5 q6 q7 q8 q9 qb qc qd ca sv rl))) (sT cI cZ cW cO)) (va_Qi (fun (zr : Int32) (_ : Unit) => zr = gS (fun j => if qd j = x then 1 else 0) nw 0 0) (fun _ _ => True) gN) 0 0 gN := by
  refine Met.ofW (cc := cX6_in) (maxL := 4) (ret := (some .int)) (by decide +kernel) rfl ?_
  intro p e s m args below meth c s₁ B hml hv
  obtain ⟨rfl, hP, hK⟩ := hv
  have hx := B.exec
  have hb := B.bytes
  have hr := B.returns
  have hts := atoms_spec (ws := wsX6_in) B.pre
  have hown : s.vm.findClass RX6 = some m.cls := findClass_of_methodNamed B.named
  have hlocks := B.notSynchronized
  have hS : va_S gN s.heap s.heap [] := va_S.rf
  have hP : va_P D vwCl (sW si fa ob op oc ow cI cW cO q0 nb nq nr (sRf ad 0 nb) (sRf ad 1 nq) (sRf ad 2 nr) (sRf ad 3 nw) (nI nw) (nI day) co ++ (R ++ sPl nb nq nr nw ad (sEn cI q1 q2 q3 q4 q5 q6 q7 q8 q9 qb qc qd ca sv rl))) s.heap := hP
  have hl := lv_entry ([.ref si, .int x]) (n := 4) (Nat.le_of_ble_eq_true rfl)
  rw [lg_entry_eq]
  generalize (lg_sl ([.ref si, .int x]) ++ List.replicate (4 - (lg_sl ([.ref si, .int x])).length) Slot.unset).toArray = ls at hl ⊢
  have hl : lv_has ls 4 [(0, .ref si), (1, .int x)] := hl
  refine lv_iconst (v := 0) hx hb dX6_in_0 (by decide) ?_
  refine lv_istore_n (lv' := [(2, .int 0), (0, .ref si), (1, .int x)]) hx hb dX6_in_1 rfl hl (by decide) rfl (fun ls hl => ?_)
  refine lv_iconst (v := 0) hx hb dX6_in_2 (by decide) ?_
  refine lv_istore_n (lv' := [(3, .int 0), (2, .int 0), (0, .ref si), (1, .int x)]) hx hb dX6_in_3 rfl hl (by decide) rfl (fun ls hl => ?_)
  refine gw_loop (fun (zz : Nat × Nat × Int32) H locs ls => match zz with | (k, i, acc) => va_P D vwCl (sW si fa ob op oc ow cI cW cO q0 nb nq nr (sRf ad 0 nb) (sRf ad 1 nq) (sRf ad 2 nr) (sRf ad 3 nw) (nI nw) (nI day) co ++ (R ++ sPl nb nq nr nw ad (sEn cI q1 q2 q3 q4 q5 q6 q7 q8 q9 qb qc qd ca sv rl))) H ∧ va_S gN s.heap H locs ∧ lv_has ls 4 [(3, .int (nI i)), (2, .int acc), (0, .ref si), (1, .int x)] ∧ (i + k = nw) ∧ (gS (fun j => if qd j = x then 1 else 0) k i acc = gS (fun j => if qd j = x then 1 else 0) nw 0 0)) (fun (zz : Nat × Nat × Int32) => match zz with | (k, i, acc) => k) (nw, 0, 0) ⟨hP, hS, lv_sub hl [0, 1, 2, 3] rfl, (by omega), rfl⟩ ?_
  rintro ⟨k, i, acc⟩ ih H locs ls ⟨hP, hS, hl, hin, hF⟩
  have hP : va_P D vwCl (sW si fa ob op oc ow cI cW cO q0 nb nq nr (sRf ad 0 nb) (sRf ad 1 nq) (sRf ad 2 nr) (sRf ad 3 nw) (nI nw) (nI day) co ++ (R ++ sPl nb nq nr nw ad (sEn cI q1 q2 q3 q4 q5 q6 q7 q8 q9 qb qc qd ca sv rl))) H := hP
  have hl : lv_has ls 4 [(3, .int (nI i)), (2, .int acc), (0, .ref si), (1, .int x)] := hl
  have hin : i + k = nw := hin
  have hF : gS (fun j => if qd j = x then 1 else 0) k i acc = gS (fun j => if qd j = x then 1 else 0) nw 0 0 := hF
  have ih4 := ih
  refine lv_iload_n hx hb dX6_in_4 rfl (lv_at hl 0 rfl) ?_
  refine lv_aload_n hx hb dX6_in_5 rfl (lv_at hl 2 rfl) ?_
  refine va_get (D := D) (ci := 6) (v := .int (nI nw)) (C := RX6) (T := TX6) (N := 8) hx hb hts wc_X6_in_X6 hown hK hP 0 rfl rfl 5 (by decide) (hts _ wd_X6_in_1) (fun _ h9 => h9) rfl dX6_in_6 ?_
  refine lv_icmp_ge (tgt := 39) hx hb dX6_in_9 (by decide) (fun c => ?_) (fun c => ?_)
  · skip
    have hk0 : k = 0 := by have := gw_ge (by omega) (by omega) c; omega
    subst hk0
    refine lv_iload_n hx hb dX6_in_39 rfl (lv_at hl 1 rfl) ?_
    exact W.iret (v := acc) hx hb hr (fun t ht hW => ⟨⟨_, (), rfl, hF, trivial⟩, hS.F ht⟩) hS.2.2 dX6_in_40
  · skip
    have hi : i < nw := gw_lt (by omega) (by omega) c
    obtain ⟨k, rfl⟩ : ∃ k2, k = k2 + 1 := ⟨k - 1, by omega⟩
    refine lv_iload_n hx hb dX6_in_12 rfl (lv_at hl 1 rfl) ?_
    refine lv_aload_n hx hb dX6_in_13 rfl (lv_at hl 2 rfl) ?_
    refine va_get (D := D) (ci := 6) (v := .ref ow) (C := RX6) (T := TX6) (N := 8) hx hb hts wc_X6_in_X6 hown hK hP 0 rfl rfl 4 (by decide) (hts _ wd_X6_in_2) (fun _ h9 => h9) rfl dX6_in_14 ?_
    refine lv_iload_n hx hb dX6_in_17 rfl (lv_at hl 0 rfl) ?_
    refine gw_aldW hx hb hK hP 5 2 (k := i) (v := ad (3, i)) rfl rfl (sRf_at (by first | assumption | omega)) (by omega) (by omega) dX6_in_18 ?_
    obtain ⟨i_2, hi_2, si_2⟩ := sAt3 (k := i) hP (by first | assumption | omega)
    refine va_get (D := D) (ci := 7) (v := .int (qd i)) (C := RX7) (T := TX7) (N := 5) hx hb hts wc_X6_in_X7 hown hK hP i_2 hi_2 rfl 3 (by decide) (hts _ wd_X6_in_4) (fun _ h9 => h9) rfl dX6_in_19 ?_
    refine lv_iload_n hx hb dX6_in_22 rfl (lv_at hl 3 rfl) ?_
    refine lv_icmp_ne (tgt := 30) hx hb dX6_in_23 (by decide) (fun c2 => ?_) (fun c2 => ?_)
    · skip
      refine lv_iconst (v := 0) hx hb dX6_in_30 (by decide) ?_
      refine lv_iadd hx hb dX6_in_31 ?_
      refine lv_istore_n (lv' := [(2, .int (acc + 0)), (3, .int (nI i)), (0, .ref si), (1, .int x)]) hx hb dX6_in_32 rfl hl (by decide) rfl (fun ls hl => ?_)
      refine lv_iinc (v := nI (i + 1)) (lv' := [(3, .int (nI (i + 1))), (2, .int (acc + 0)), (0, .ref si), (1, .int x)]) hx hb dX6_in_33 hl (k := 1) rfl (nI_add i 1) (by decide) rfl (fun ls hl => ?_)
      refine lv_goto (tgt := 4) hx hb dX6_in_36 (by decide) ?_
      exact ih4 (k, i + 1, acc + 0) H locs ls (by dsimp only; omega) ⟨hP, hS, lv_sub hl [0, 1, 2, 3] rfl, (by omega), (by first | exact hF | (rw [← hF]; simp [gS, *]))⟩
    · skip
      refine lv_iconst (v := 1) hx hb dX6_in_26 (by decide) ?_
      refine lv_goto (tgt := 31) hx hb dX6_in_27 (by decide) ?_
      refine lv_iadd hx hb dX6_in_31 ?_
      refine lv_istore_n (lv' := [(2, .int (acc + 1)), (3, .int (nI i)), (0, .ref si), (1, .int x)]) hx hb dX6_in_32 rfl hl (by decide) rfl (fun ls hl => ?_)
      refine lv_iinc (v := nI (i + 1)) (lv' := [(3, .int (nI (i + 1))), (2, .int (acc + 1)), (0, .ref si), (1, .int x)]) hx hb dX6_in_33 hl (k := 1) rfl (nI_add i 1) (by decide) rfl (fun ls hl => ?_)
      refine lv_goto (tgt := 4) hx hb dX6_in_36 (by decide) ?_
      exact ih4 (k, i + 1, acc + 1) H locs ls (by dsimp only; omega) ⟨hP, hS, lv_sub hl [0, 1, 2, 3] rfl, (by omega), (by first | exact hF | (rw [← hF]; simp [gS, *]))⟩

theorem wc_X6_dust_X6 : ∀ w ∈ u_ws RX6 TX6 8, w ∈ wsX6_dust := by decide +kernel
theorem wd_X6_dust_1 : (.fieldLink RX6 18 "GritWheelsLaw$Sim" "people" "[[I" : Cond) ∈ wsX6_dust := by decide +kernel
set_option maxHeartbeats 4000000 in
set_option maxRecDepth 100000 in
theorem met_X6_dust (l : Launch) (D : va_G) (cI cZ cW cO : ClassId) (si fa ob op oc ow : Nat) (ad : Nat × Nat → Nat) (nb nq nr nw day : Nat) (co : Int32) (q0 q1 q2 q3 q4 q5 q6 q7 q8 q9 qb qc qd ca sv rl : Nat → Int32) (R : va_W) (hnq : nq ≤ 6) : Met l yX6_dust wsX6_dust ({ frames := 0, cells := 0, slots := 0, locals := 0 }) (gPr [.ref si] D (sW si fa ob op oc ow cI cW cO q0 nb nq nr (sRf ad 0 nb) (sRf ad 1 nq) (sRf ad 2 nr) (sRf ad 3 nw) (nI nw) (nI day) co ++ (R ++ sPl nb nq nr nw ad (sEn cI q1 q2 q3 q4 q5 q6 q7 q8 q9 qb qc qd ca sv rl))) (sT cI cZ cW cO)) (va_Qi (fun (zr : Int32) (_ : Unit) => zr = gS q7 nq 0 0) (fun _ _ => True) gN) 0 0 gN := by
  refine Met.ofW (cc := cX6_dust) (maxL := 6) (ret := (some .int)) (by decide +kernel) rfl ?_
  intro p e s m args below meth c s₁ B hml hv
  obtain ⟨rfl, hP, hK⟩ := hv
  have hx := B.exec
  have hb := B.bytes
  have hr := B.returns
  have hts := atoms_spec (ws := wsX6_dust) B.pre
  have hown : s.vm.findClass RX6 = some m.cls := findClass_of_methodNamed B.named
  have hlocks := B.notSynchronized
  have hS : va_S gN s.heap s.heap [] := va_S.rf
  have hP : va_P D vwCl (sW si fa ob op oc ow cI cW cO q0 nb nq nr (sRf ad 0 nb) (sRf ad 1 nq) (sRf ad 2 nr) (sRf ad 3 nw) (nI nw) (nI day) co ++ (R ++ sPl nb nq nr nw ad (sEn cI q1 q2 q3 q4 q5 q6 q7 q8 q9 qb qc qd ca sv rl))) s.heap := hP
  have hl := lv_entry ([.ref si]) (n := 6) (Nat.le_of_ble_eq_true rfl)
  rw [lg_entry_eq]
  generalize (lg_sl ([.ref si]) ++ List.replicate (6 - (lg_sl ([.ref si])).length) Slot.unset).toArray = ls at hl ⊢
  have hl : lv_has ls 6 [(0, .ref si)] := hl
  refine lv_iconst (v := 0) hx hb dX6_dust_0 (by decide) ?_
  refine lv_istore_n (lv' := [(1, .int 0), (0, .ref si)]) hx hb dX6_dust_1 rfl hl (by decide) rfl (fun ls hl => ?_)
  refine lv_aload_n hx hb dX6_dust_2 rfl (lv_at hl 1 rfl) ?_
  refine va_get (D := D) (ci := 6) (v := .ref op) (C := RX6) (T := TX6) (N := 8) hx hb hts wc_X6_dust_X6 hown hK hP 0 rfl rfl 2 (by decide) (hts _ wd_X6_dust_1) (fun _ h9 => h9) rfl dX6_dust_3 ?_
  refine lv_astore_n (lv' := [(2, .ref op), (1, .int 0), (0, .ref si)]) hx hb dX6_dust_6 rfl hl (by decide) rfl (fun ls hl => ?_)
  refine lv_aload_n hx hb dX6_dust_7 rfl (lv_at hl 0 rfl) ?_
  refine va_alen (v := nI nq) hx hb hK hP 3 3 rfl rfl rfl dX6_dust_8 ?_
  refine lv_istore_n (lv' := [(3, .int (nI nq)), (2, .ref op), (1, .int 0), (0, .ref si)]) hx hb dX6_dust_9 rfl hl (by decide) rfl (fun ls hl => ?_)
  refine lv_iconst (v := 0) hx hb dX6_dust_10 (by decide) ?_
  refine lv_istore (lv' := [(4, .int 0), (3, .int (nI nq)), (2, .ref op), (1, .int 0), (0, .ref si)]) hx hb dX6_dust_11 hl (by decide) rfl (fun ls hl => ?_)
  refine gw_loop (fun (zz : Nat × Nat × Int32) H locs ls => match zz with | (k, i, acc) => va_P D vwCl (sW si fa ob op oc ow cI cW cO q0 nb nq nr (sRf ad 0 nb) (sRf ad 1 nq) (sRf ad 2 nr) (sRf ad 3 nw) (nI nw) (nI day) co ++ (R ++ sPl nb nq nr nw ad (sEn cI q1 q2 q3 q4 q5 q6 q7 q8 q9 qb qc qd ca sv rl))) H ∧ va_S gN s.heap H locs ∧ lv_has ls 6 [(4, .int (nI i)), (3, .int (nI nq)), (2, .ref op), (1, .int acc), (0, .ref si)] ∧ (i + k = nq) ∧ (gS q7 k i acc = gS q7 nq 0 0)) (fun (zz : Nat × Nat × Int32) => match zz with | (k, i, acc) => k) (nq, 0, 0) ⟨hP, hS, lv_sub hl [0, 1, 2, 3, 4] rfl, (by omega), rfl⟩ ?_
  rintro ⟨k, i, acc⟩ ih H locs ls ⟨hP, hS, hl, hin, hF⟩
  have hP : va_P D vwCl (sW si fa ob op oc ow cI cW cO q0 nb nq nr (sRf ad 0 nb) (sRf ad 1 nq) (sRf ad 2 nr) (sRf ad 3 nw) (nI nw) (nI day) co ++ (R ++ sPl nb nq nr nw ad (sEn cI q1 q2 q3 q4 q5 q6 q7 q8 q9 qb qc qd ca sv rl))) H := hP
  have hl : lv_has ls 6 [(4, .int (nI i)), (3, .int (nI nq)), (2, .ref op), (1, .int acc), (0, .ref si)] := hl
  have hin : i + k = nq := hin
  have hF : gS q7 k i acc = gS q7 nq 0 0 := hF
  have ih13 := ih
  refine lv_iload hx hb dX6_dust_13 (lv_at hl 0 rfl) ?_
  refine lv_iload_n hx hb dX6_dust_15 rfl (lv_at hl 1 rfl) ?_
  refine lv_icmp_ge (tgt := 38) hx hb dX6_dust_16 (by decide) (fun c => ?_) (fun c => ?_)
  · skip
    have hk0 : k = 0 := by have := gw_ge (by omega) (by omega) c; omega
    subst hk0
    refine lv_iload_n hx hb dX6_dust_38 rfl (lv_at hl 3 rfl) ?_
    exact W.iret (v := acc) hx hb hr (fun t ht hW => ⟨⟨_, (), rfl, hF, trivial⟩, hS.F ht⟩) hS.2.2 dX6_dust_39
  · skip
    have hi : i < nq := gw_lt (by omega) (by omega) c
    obtain ⟨k, rfl⟩ : ∃ k2, k = k2 + 1 := ⟨k - 1, by omega⟩
    refine lv_aload_n hx hb dX6_dust_19 rfl (lv_at hl 2 rfl) ?_
    refine lv_iload hx hb dX6_dust_20 (lv_at hl 0 rfl) ?_
    refine gw_aldA hx hb hK hP 3 3 (k := i) (v := ad (1, i)) rfl rfl (sRf_at (by first | assumption | omega)) (by first | assumption | omega) (by omega) dX6_dust_22 ?_
    refine lv_astore (lv' := [(5, .ref (ad (1, i))), (4, .int (nI i)), (3, .int (nI nq)), (2, .ref op), (1, .int acc), (0, .ref si)]) hx hb dX6_dust_23 hl (by decide) rfl (fun ls hl => ?_)
    refine lv_iload_n hx hb dX6_dust_25 rfl (lv_at hl 4 rfl) ?_
    refine lv_aload hx hb dX6_dust_26 (lv_at hl 0 rfl) ?_
    refine lv_iconst (v := 2) hx hb dX6_dust_28 (by decide) ?_
    obtain ⟨i_2, hi_2, si_2⟩ := sAt1 (k := i) hP (by first | assumption | omega)
    refine gw_top (y := nI 2) rfl ?_
    refine gw_iald hx hb hK hP i_2 0 (k := 2) hi_2 rfl (by first | decide | omega) (by decide) dX6_dust_29 ?_
    refine gw_top (y := q7 i) rfl ?_
    refine lv_iadd hx hb dX6_dust_30 ?_
    refine lv_istore_n (lv' := [(1, .int (acc + (q7 i))), (5, .ref (ad (1, i))), (4, .int (nI i)), (3, .int (nI nq)), (2, .ref op), (0, .ref si)]) hx hb dX6_dust_31 rfl hl (by decide) rfl (fun ls hl => ?_)
    refine lv_iinc (v := nI (i + 1)) (lv' := [(4, .int (nI (i + 1))), (1, .int (acc + (q7 i))), (5, .ref (ad (1, i))), (3, .int (nI nq)), (2, .ref op), (0, .ref si)]) hx hb dX6_dust_32 hl (k := 2) rfl (nI_add i 1) (by decide) rfl (fun ls hl => ?_)
    refine lv_goto (tgt := 13) hx hb dX6_dust_35 (by decide) ?_
    exact ih13 (k, i + 1, acc + (q7 i)) H locs ls (by dsimp only; omega) ⟨hP, hS, lv_sub hl [0, 3, 4, 1, 5] rfl, (by omega), (by first | exact hF | (rw [← hF]; simp [gS, *]))⟩
