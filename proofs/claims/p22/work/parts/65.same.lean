/-! Sim.isSame. -/
theorem wd_X6_isSame_0 : (.arrayClass .int : Cond) ∈ wsX6_isSame := by decide +kernel
theorem wc_X6_isSame_X6 : ∀ w ∈ u_ws RX6 TX6 8, w ∈ wsX6_isSame := by decide +kernel
theorem wd_X6_isSame_2 : (.fieldLink RX6 39 "GritWheelsLaw$Sim" "many" "I" : Cond) ∈ wsX6_isSame := by decide +kernel
theorem wd_X6_isSame_3 : (.fieldLink RX6 18 "GritWheelsLaw$Sim" "people" "[[I" : Cond) ∈ wsX6_isSame := by decide +kernel
theorem wd_X6_isSame_4 : (.fieldLink RX6 14 "GritWheelsLaw$Sim" "beds" "[[I" : Cond) ∈ wsX6_isSame := by decide +kernel
theorem wd_X6_isSame_5 : (.fieldLink RX6 21 "GritWheelsLaw$Sim" "rafts" "[[I" : Cond) ∈ wsX6_isSame := by decide +kernel
theorem wd_X6_isSame_6 : (.fieldLink RX6 47 "GritWheelsLaw$Sim" "day" "I" : Cond) ∈ wsX6_isSame := by decide +kernel
theorem wd_X6_isSame_7 : (.fieldLink RX6 101 "GritWheelsLaw$Sim" "coins" "I" : Cond) ∈ wsX6_isSame := by decide +kernel
theorem wd_X6_isSame_8 : (.fieldLink RX6 26 "GritWheelsLaw$Sim" "wheels" "[LGritWheelsLaw$Wheel;" : Cond) ∈ wsX6_isSame := by decide +kernel
theorem wc_X6_isSame_X7 : ∀ w ∈ u_ws RX7 TX7 5, w ∈ wsX6_isSame := by decide +kernel
theorem wd_X6_isSame_10 : (.fieldLink RX6 57 "GritWheelsLaw$Wheel" "hasCrack" "Z" : Cond) ∈ wsX6_isSame := by decide +kernel
theorem wd_X6_isSame_11 : (.fieldLink RX6 51 "GritWheelsLaw$Wheel" "bed" "I" : Cond) ∈ wsX6_isSame := by decide +kernel
theorem wd_X6_isSame_12 : (.fieldLink RX6 65 "GritWheelsLaw$Wheel" "state" "I" : Cond) ∈ wsX6_isSame := by decide +kernel
theorem wd_X6_isSame_13 : (.fieldLink RX6 72 "GritWheelsLaw$Wheel" "raft" "I" : Cond) ∈ wsX6_isSame := by decide +kernel
theorem wd_X6_isSame_14 : (.fieldLink RX6 54 "GritWheelsLaw$Wheel" "size" "I" : Cond) ∈ wsX6_isSame := by decide +kernel
set_option maxHeartbeats 4000000 in
set_option maxRecDepth 100000 in
theorem met_X6_isSame (l : Launch) (D : va_G) (cI cZ cW cO : ClassId) (ts : va_W) (a : Nat → Nat) (si fa ob op oc ow : Nat) (ad : Nat × Nat → Nat) (Q T : Nat → Nat → Int32) (nb nq nw nr day nbt nqt nwt dayt : Nat) (co : Int32) (ca bo sv rl : Nat → Int32) (i0 : Nat) (hI : gInv i0 Q nb nq nw day nr bo sv) (hX : pX Q nb nq nw nr ca sv rl) (sz : Nat) : Met l yX6_isSame wsX6_isSame ({ frames := 6, cells := 80, slots := 500, locals := 125 }) (gPs [.ref si, .ref (a 0)] D (sW si fa ob op oc ow cI cW cO (Q 0) nb nq nr (sRf ad 0 nb) (sRf ad 1 nq) (sRf ad 2 nr) (sRf ad 3 nw) (nI nw) (nI day) co ++ ((ts ++ gG a cI cZ Q T nb nq nw nr day nbt nqt nwt dayt co ca bo) ++ sPl nb nq nr nw ad (sEn cI (Q 1) (Q 2) (Q 3) (Q 4) (Q 5) (Q 6) (Q 7) (Q 8) (Q 9) (Q 11) (Q 12) (Q 13) ca sv rl))) (sT cI cZ cW cO) sz) (va_Qi (fun (zr : Int32) (_ : Unit) => zr = 1) (fun (_ : Unit) _ => True) (va_A (sW si fa ob op oc ow cI cW cO (Q 0) nb nq nr (sRf ad 0 nb) (sRf ad 1 nq) (sRf ad 2 nr) (sRf ad 3 nw) (nI nw) (nI day) co ++ ((ts ++ gG a cI cZ Q T nb nq nw nr day nbt nqt nwt dayt co ca bo) ++ sPl nb nq nr nw ad (sEn cI (Q 1) (Q 2) (Q 3) (Q 4) (Q 5) (Q 6) (Q 7) (Q 8) (Q 9) (Q 11) (Q 12) (Q 13) ca sv rl))) sz)) 80 500 (va_A (sW si fa ob op oc ow cI cW cO (Q 0) nb nq nr (sRf ad 0 nb) (sRf ad 1 nq) (sRf ad 2 nr) (sRf ad 3 nw) (nI nw) (nI day) co ++ ((ts ++ gG a cI cZ Q T nb nq nw nr day nbt nqt nwt dayt co ca bo) ++ sPl nb nq nr nw ad (sEn cI (Q 1) (Q 2) (Q 3) (Q 4) (Q 5) (Q 6) (Q 7) (Q 8) (Q 9) (Q 11) (Q 12) (Q 13) ca sv rl))) sz) := by
  refine Met.ofW (cc := cX6_isSame) (maxL := 11) (ret := (some .boolean)) (by decide +kernel) rfl ?_
  intro p e s m args below meth c s₁ B hml hv
  obtain ⟨rfl, hsz, hP, hK, hD0, hR⟩ := hv
  have hx := B.exec
  have hb := B.bytes
  have hr := B.returns
  have hts := atoms_spec (ws := wsX6_isSame) B.pre
  have hown : s.vm.findClass RX6 = some m.cls := findClass_of_methodNamed B.named
  have hlocks := B.notSynchronized
  subst hsz
  have hD := hD0.self (sz := s.heap.size)
  generalize hAe : va_A (sW si fa ob op oc ow cI cW cO (Q 0) nb nq nr (sRf ad 0 nb) (sRf ad 1 nq) (sRf ad 2 nr) (sRf ad 3 nw) (nI nw) (nI day) co ++ ((ts ++ gG a cI cZ Q T nb nq nw nr day nbt nqt nwt dayt co ca bo) ++ sPl nb nq nr nw ad (sEn cI (Q 1) (Q 2) (Q 3) (Q 4) (Q 5) (Q 6) (Q 7) (Q 8) (Q 9) (Q 11) (Q 12) (Q 13) ca sv rl))) s.heap.size = A at hD ⊢
  have hA : ∀ q : Nat, s.heap.size ≤ q → A q := fun q h => by rw [← hAe]; exact Or.inr h
  have hS : va_S A s.heap s.heap [] := va_S.rf
  have hP : va_P D vwCl (sW si fa ob op oc ow cI cW cO (Q 0) nb nq nr (sRf ad 0 nb) (sRf ad 1 nq) (sRf ad 2 nr) (sRf ad 3 nw) (nI nw) (nI day) co ++ ((ts ++ gG a cI cZ Q T nb nq nw nr day nbt nqt nwt dayt co ca bo) ++ sPl nb nq nr nw ad (sEn cI (Q 1) (Q 2) (Q 3) (Q 4) (Q 5) (Q 6) (Q 7) (Q 8) (Q 9) (Q 11) (Q 12) (Q 13) ca sv rl))) s.heap := hP
  have hl := lv_entry ([.ref si, .ref (a 0)]) (n := 11) (Nat.le_of_ble_eq_true rfl)
  rw [lg_entry_eq]
  generalize (lg_sl ([.ref si, .ref (a 0)]) ++ List.replicate (11 - (lg_sl ([.ref si, .ref (a 0)])).length) Slot.unset).toArray = ls at hl ⊢
  have hl : lv_has ls 11 [(0, .ref si), (1, .ref (a 0))] := hl
  have hnb := hI.hnb
  have hnq := hI.hnq
  have hnw := hI.hnw
  have hnr := hI.hnr
  have hdy : day < 2 ^ 30 := by have h8 := hI.hday; have h9 := hI.hi; omega
  refine lv_iconst (v := 0) hx hb dX6_isSame_0 (by decide) ?_
  refine lv_istore_n (lv' := [(2, .int 0), (0, .ref si), (1, .ref (a 0))]) hx hb dX6_isSame_1 rfl hl (by decide) rfl (fun ls hl => ?_)
  refine lv_iconst (v := 5) hx hb dX6_isSame_2 (by decide) ?_
  refine gw_newI hx hb (hts _ wd_X6_isSame_0) hK 0 rfl hP hD hS hA (n := 5) (N' := 5) (by decide) (by decide) (by decide) (Nat.le_of_ble_eq_true rfl) (Nat.le_of_ble_eq_true rfl) dX6_isSame_3 (fun q_1 H hP hD hS => ?_)
  obtain ⟨hP, hD⟩ := gPD_new hP hD
  have hP : va_P D vwCl (sW si fa ob op oc ow cI cW cO (Q 0) nb nq nr (sRf ad 0 nb) (sRf ad 1 nq) (sRf ad 2 nr) (sRf ad 3 nw) (nI nw) (nI day) co ++ ((([(q_1, .inl (cI, 5, .inl (fun _ => 0)))] ++ ts) ++ gG a cI cZ Q T nb nq nw nr day nbt nqt nwt dayt co ca bo) ++ sPl nb nq nr nw ad (sEn cI (Q 1) (Q 2) (Q 3) (Q 4) (Q 5) (Q 6) (Q 7) (Q 8) (Q 9) (Q 11) (Q 12) (Q 13) ca sv rl))) _ := hP
  have hD : va_D A (sW si fa ob op oc ow cI cW cO (Q 0) nb nq nr (sRf ad 0 nb) (sRf ad 1 nq) (sRf ad 2 nr) (sRf ad 3 nw) (nI nw) (nI day) co ++ ((([(q_1, .inl (cI, 5, .inl (fun _ => 0)))] ++ ts) ++ gG a cI cZ Q T nb nq nw nr day nbt nqt nwt dayt co ca bo) ++ sPl nb nq nr nw ad (sEn cI (Q 1) (Q 2) (Q 3) (Q 4) (Q 5) (Q 6) (Q 7) (Q 8) (Q 9) (Q 11) (Q 12) (Q 13) ca sv rl))) := hD
  refine W.widen (k := 1) (n := 5) (by omega) (by omega) ?_
  refine lv_astore_n (lv' := [(3, .ref q_1), (2, .int 0), (0, .ref si), (1, .ref (a 0))]) hx hb dX6_isSame_5 rfl hl (by decide) rfl (fun ls hl => ?_)
  refine lv_iconst (v := 3) hx hb dX6_isSame_6 (by decide) ?_
  refine gw_newI hx hb (hts _ wd_X6_isSame_0) hK 0 rfl hP hD hS hA (n := 3) (N' := 3) (by decide) (by decide) (by decide) (Nat.le_of_ble_eq_true rfl) (Nat.le_of_ble_eq_true rfl) dX6_isSame_7 (fun q_2 H hP hD hS => ?_)
  obtain ⟨hP, hD⟩ := gPD_new hP hD
  have hP : va_P D vwCl (sW si fa ob op oc ow cI cW cO (Q 0) nb nq nr (sRf ad 0 nb) (sRf ad 1 nq) (sRf ad 2 nr) (sRf ad 3 nw) (nI nw) (nI day) co ++ ((([(q_2, .inl (cI, 3, .inl (fun _ => 0))), (q_1, .inl (cI, 5, .inl (fun _ => 0)))] ++ ts) ++ gG a cI cZ Q T nb nq nw nr day nbt nqt nwt dayt co ca bo) ++ sPl nb nq nr nw ad (sEn cI (Q 1) (Q 2) (Q 3) (Q 4) (Q 5) (Q 6) (Q 7) (Q 8) (Q 9) (Q 11) (Q 12) (Q 13) ca sv rl))) _ := hP
  have hD : va_D A (sW si fa ob op oc ow cI cW cO (Q 0) nb nq nr (sRf ad 0 nb) (sRf ad 1 nq) (sRf ad 2 nr) (sRf ad 3 nw) (nI nw) (nI day) co ++ ((([(q_2, .inl (cI, 3, .inl (fun _ => 0))), (q_1, .inl (cI, 5, .inl (fun _ => 0)))] ++ ts) ++ gG a cI cZ Q T nb nq nw nr day nbt nqt nwt dayt co ca bo) ++ sPl nb nq nr nw ad (sEn cI (Q 1) (Q 2) (Q 3) (Q 4) (Q 5) (Q 6) (Q 7) (Q 8) (Q 9) (Q 11) (Q 12) (Q 13) ca sv rl))) := hD
  refine W.widen (k := 2) (n := 8) (by omega) (by omega) ?_
  refine lv_astore (lv' := [(4, .ref q_2), (3, .ref q_1), (2, .int 0), (0, .ref si), (1, .ref (a 0))]) hx hb dX6_isSame_9 hl (by decide) rfl (fun ls hl => ?_)
  refine lv_iconst (v := 0) hx hb dX6_isSame_11 (by decide) ?_
  refine lv_istore (lv' := [(5, .int 0), (4, .ref q_2), (3, .ref q_1), (2, .int 0), (0, .ref si), (1, .ref (a 0))]) hx hb dX6_isSame_12 hl (by decide) rfl (fun ls hl => ?_)
  refine gw_loopc (fun (zz : Nat × Nat × Int32 × (Nat → Int32) × (Nat → Int32)) H locs ls => match zz with | (k, i, acc, ofB, upo) => va_P D vwCl (sW si fa ob op oc ow cI cW cO (Q 0) nb nq nr (sRf ad 0 nb) (sRf ad 1 nq) (sRf ad 2 nr) (sRf ad 3 nw) (nI nw) (nI day) co ++ ((([(q_2, .inl (cI, 3, .inl upo)), (q_1, .inl (cI, 5, .inl ofB))] ++ ts) ++ gG a cI cZ Q T nb nq nw nr day nbt nqt nwt dayt co ca bo) ++ sPl nb nq nr nw ad (sEn cI (Q 1) (Q 2) (Q 3) (Q 4) (Q 5) (Q 6) (Q 7) (Q 8) (Q 9) (Q 11) (Q 12) (Q 13) ca sv rl))) H ∧ va_D A (sW si fa ob op oc ow cI cW cO (Q 0) nb nq nr (sRf ad 0 nb) (sRf ad 1 nq) (sRf ad 2 nr) (sRf ad 3 nw) (nI nw) (nI day) co ++ ((([(q_2, .inl (cI, 3, .inl upo)), (q_1, .inl (cI, 5, .inl ofB))] ++ ts) ++ gG a cI cZ Q T nb nq nw nr day nbt nqt nwt dayt co ca bo) ++ sPl nb nq nr nw ad (sEn cI (Q 1) (Q 2) (Q 3) (Q 4) (Q 5) (Q 6) (Q 7) (Q 8) (Q 9) (Q 11) (Q 12) (Q 13) ca sv rl))) ∧ va_S A s.heap H locs ∧ lv_has ls 11 [(5, .int (nI i)), (4, .ref q_2), (3, .ref q_1), (2, .int acc), (0, .ref si), (1, .ref (a 0))] ∧ (i + k = nw) ∧ (gS (sS Q) k i acc = gS (sS Q) nw 0 0) ∧ (∀ b, b < 5 → gS (sB Q b) k i (ofB b) = gS (sB Q b) nw 0 0) ∧ (∀ r, r < 3 → gS (sU Q r) k i (upo r) = gS (sU Q r) nw 0 0)) (fun (zz : Nat × Nat × Int32 × (Nat → Int32) × (Nat → Int32)) => match zz with | (k, i, acc, ofB, upo) => k) (fun (zz : Nat × Nat × Int32 × (Nat → Int32) × (Nat → Int32)) => match zz with | (k, i, acc, ofB, upo) => 2 + i) (fun (zz : Nat × Nat × Int32 × (Nat → Int32) × (Nat → Int32)) => match zz with | (k, i, acc, ofB, upo) => 8 + 6 * i) (nw, 0, 0, fun _ => 0, fun _ => 0) (by show _ ≤ 2 + 0; omega) (by show _ ≤ 8 + 6 * 0; omega) ⟨hP, hD, hS, lv_sub hl [0, 1, 2, 3, 4, 5] rfl, (by omega), rfl, (fun _ _ => rfl), (fun _ _ => rfl)⟩ ?_
  rintro ⟨k, i, acc, ofB, upo⟩ ih H locs ls ⟨hP, hD, hS, hl, hin, hF, hFB, hFU⟩
  refine W.widen (k := 2 + i) (n := 8 + 6 * i) (Nat.le_refl _) (Nat.le_refl _) ?_
  have hP : va_P D vwCl (sW si fa ob op oc ow cI cW cO (Q 0) nb nq nr (sRf ad 0 nb) (sRf ad 1 nq) (sRf ad 2 nr) (sRf ad 3 nw) (nI nw) (nI day) co ++ ((([(q_2, .inl (cI, 3, .inl upo)), (q_1, .inl (cI, 5, .inl ofB))] ++ ts) ++ gG a cI cZ Q T nb nq nw nr day nbt nqt nwt dayt co ca bo) ++ sPl nb nq nr nw ad (sEn cI (Q 1) (Q 2) (Q 3) (Q 4) (Q 5) (Q 6) (Q 7) (Q 8) (Q 9) (Q 11) (Q 12) (Q 13) ca sv rl))) H := hP
  have hD : va_D A (sW si fa ob op oc ow cI cW cO (Q 0) nb nq nr (sRf ad 0 nb) (sRf ad 1 nq) (sRf ad 2 nr) (sRf ad 3 nw) (nI nw) (nI day) co ++ ((([(q_2, .inl (cI, 3, .inl upo)), (q_1, .inl (cI, 5, .inl ofB))] ++ ts) ++ gG a cI cZ Q T nb nq nw nr day nbt nqt nwt dayt co ca bo) ++ sPl nb nq nr nw ad (sEn cI (Q 1) (Q 2) (Q 3) (Q 4) (Q 5) (Q 6) (Q 7) (Q 8) (Q 9) (Q 11) (Q 12) (Q 13) ca sv rl))) := hD
  have hl : lv_has ls 11 [(5, .int (nI i)), (4, .ref q_2), (3, .ref q_1), (2, .int acc), (0, .ref si), (1, .ref (a 0))] := hl
  have hin : i + k = nw := hin
  have hF : gS (sS Q) k i acc = gS (sS Q) nw 0 0 := hF
  have hFB : ∀ b, b < 5 → gS (sB Q b) k i (ofB b) = gS (sB Q b) nw 0 0 := hFB
  have hFU : ∀ r, r < 3 → gS (sU Q r) k i (upo r) = gS (sU Q r) nw 0 0 := hFU
  have ih14 := ih
  refine lv_iload hx hb dX6_isSame_14 (lv_at hl 0 rfl) ?_
  refine lv_aload_n hx hb dX6_isSame_16 rfl (lv_at hl 4 rfl) ?_
  refine va_get (D := D) (ci := 6) (v := .int (nI nw)) (C := RX6) (T := TX6) (N := 8) hx hb hts wc_X6_isSame_X6 hown hK hP 0 rfl rfl 5 (by decide) (hts _ wd_X6_isSame_2) (fun _ h9 => h9) rfl dX6_isSame_17 ?_
  refine lv_icmp_ge (tgt := 259) hx hb dX6_isSame_20 (by decide) (fun c => ?_) (fun c => ?_)
  · skip
    have hk0 : k = 0 := by have := gw_ge (by omega) (by omega) c; omega
    subst hk0
    have hie : nw = i := by omega
    subst hie
    have hF : acc = gS (sS Q) nw 0 0 := hF
    have hFB : ∀ b, b < 5 → ofB b = gS (sB Q b) nw 0 0 := hFB
    have hFU : ∀ r, r < 3 → upo r = gS (sU Q r) nw 0 0 := hFU
    refine W.widen (k := 62) (n := 368) (by omega) (by omega) ?_
    refine lv_iconst (v := 0) hx hb dX6_isSame_259 (by decide) ?_
    refine lv_istore (lv' := [(5, .int 0), (4, .ref q_2), (3, .ref q_1), (2, .int acc), (0, .ref si), (1, .ref (a 0))]) hx hb dX6_isSame_260 hl (by decide) rfl (fun ls hl => ?_)
    refine gw_loopc (fun (zz : Nat × Nat) H locs ls => match zz with | (k, i) => va_P D vwCl (sW si fa ob op oc ow cI cW cO (Q 0) nb nq nr (sRf ad 0 nb) (sRf ad 1 nq) (sRf ad 2 nr) (sRf ad 3 nw) (nI nw) (nI day) co ++ ((([(q_2, .inl (cI, 3, .inl upo)), (q_1, .inl (cI, 5, .inl ofB))] ++ ts) ++ gG a cI cZ Q T nb nq nw nr day nbt nqt nwt dayt co ca bo) ++ sPl nb nq nr nw ad (sEn cI (Q 1) (Q 2) (Q 3) (Q 4) (Q 5) (Q 6) (Q 7) (Q 8) (Q 9) (Q 11) (Q 12) (Q 13) ca sv rl))) H ∧ va_D A (sW si fa ob op oc ow cI cW cO (Q 0) nb nq nr (sRf ad 0 nb) (sRf ad 1 nq) (sRf ad 2 nr) (sRf ad 3 nw) (nI nw) (nI day) co ++ ((([(q_2, .inl (cI, 3, .inl upo)), (q_1, .inl (cI, 5, .inl ofB))] ++ ts) ++ gG a cI cZ Q T nb nq nw nr day nbt nqt nwt dayt co ca bo) ++ sPl nb nq nr nw ad (sEn cI (Q 1) (Q 2) (Q 3) (Q 4) (Q 5) (Q 6) (Q 7) (Q 8) (Q 9) (Q 11) (Q 12) (Q 13) ca sv rl))) ∧ va_S A s.heap H locs ∧ lv_has ls 11 [(5, .int (nI i)), (4, .ref q_2), (3, .ref q_1), (2, .int acc), (0, .ref si), (1, .ref (a 0))] ∧ (i + k = nq)) (fun (zz : Nat × Nat) => match zz with | (k, i) => k) (fun (zz : Nat × Nat) => match zz with | (k, i) => 62 + i) (fun (zz : Nat × Nat) => match zz with | (k, i) => 368 + 5 * i) (nq, 0) (by show _ ≤ 62 + 0; omega) (by show _ ≤ 368 + 5 * 0; omega) ⟨hP, hD, hS, lv_sub hl [0, 1, 2, 3, 4, 5] rfl, (by omega)⟩ ?_
    rintro ⟨k, i⟩ ih H locs ls ⟨hP, hD, hS, hl, hin⟩
    refine W.widen (k := 62 + i) (n := 368 + 5 * i) (Nat.le_refl _) (Nat.le_refl _) ?_
    have hP : va_P D vwCl (sW si fa ob op oc ow cI cW cO (Q 0) nb nq nr (sRf ad 0 nb) (sRf ad 1 nq) (sRf ad 2 nr) (sRf ad 3 nw) (nI nw) (nI day) co ++ ((([(q_2, .inl (cI, 3, .inl upo)), (q_1, .inl (cI, 5, .inl ofB))] ++ ts) ++ gG a cI cZ Q T nb nq nw nr day nbt nqt nwt dayt co ca bo) ++ sPl nb nq nr nw ad (sEn cI (Q 1) (Q 2) (Q 3) (Q 4) (Q 5) (Q 6) (Q 7) (Q 8) (Q 9) (Q 11) (Q 12) (Q 13) ca sv rl))) H := hP
    have hD : va_D A (sW si fa ob op oc ow cI cW cO (Q 0) nb nq nr (sRf ad 0 nb) (sRf ad 1 nq) (sRf ad 2 nr) (sRf ad 3 nw) (nI nw) (nI day) co ++ ((([(q_2, .inl (cI, 3, .inl upo)), (q_1, .inl (cI, 5, .inl ofB))] ++ ts) ++ gG a cI cZ Q T nb nq nw nr day nbt nqt nwt dayt co ca bo) ++ sPl nb nq nr nw ad (sEn cI (Q 1) (Q 2) (Q 3) (Q 4) (Q 5) (Q 6) (Q 7) (Q 8) (Q 9) (Q 11) (Q 12) (Q 13) ca sv rl))) := hD
    have hl : lv_has ls 11 [(5, .int (nI i)), (4, .ref q_2), (3, .ref q_1), (2, .int acc), (0, .ref si), (1, .ref (a 0))] := hl
    have hin : i + k = nq := hin
    have ih262 := ih
    refine lv_iload hx hb dX6_isSame_262 (lv_at hl 0 rfl) ?_
    refine lv_aload_n hx hb dX6_isSame_264 rfl (lv_at hl 4 rfl) ?_
    refine va_get (D := D) (ci := 6) (v := .ref op) (C := RX6) (T := TX6) (N := 8) hx hb hts wc_X6_isSame_X6 hown hK hP 0 rfl rfl 2 (by decide) (hts _ wd_X6_isSame_3) (fun _ h9 => h9) rfl dX6_isSame_265 ?_
    refine va_alen (v := nI nq) hx hb hK hP 3 3 rfl rfl rfl dX6_isSame_268 ?_
    refine lv_icmp_ge (tgt := 411) hx hb dX6_isSame_269 (by decide) (fun c => ?_) (fun c => ?_)
    · skip
      have hk0 : k = 0 := by have := gw_ge (by omega) (by omega) c; omega
      subst hk0
      have hie : nq = i := by omega
      subst hie
      refine W.widen (k := 68) (n := 398) (by omega) (by omega) ?_
      refine lv_iconst (v := 0) hx hb dX6_isSame_411 (by decide) ?_
      refine lv_istore (lv' := [(5, .int 0), (4, .ref q_2), (3, .ref q_1), (2, .int acc), (0, .ref si), (1, .ref (a 0))]) hx hb dX6_isSame_412 hl (by decide) rfl (fun ls hl => ?_)
      refine gw_loopc (fun (zz : Nat × Nat) H locs ls => match zz with | (k, i) => va_P D vwCl (sW si fa ob op oc ow cI cW cO (Q 0) nb nq nr (sRf ad 0 nb) (sRf ad 1 nq) (sRf ad 2 nr) (sRf ad 3 nw) (nI nw) (nI day) co ++ ((([(q_2, .inl (cI, 3, .inl upo)), (q_1, .inl (cI, 5, .inl ofB))] ++ ts) ++ gG a cI cZ Q T nb nq nw nr day nbt nqt nwt dayt co ca bo) ++ sPl nb nq nr nw ad (sEn cI (Q 1) (Q 2) (Q 3) (Q 4) (Q 5) (Q 6) (Q 7) (Q 8) (Q 9) (Q 11) (Q 12) (Q 13) ca sv rl))) H ∧ va_D A (sW si fa ob op oc ow cI cW cO (Q 0) nb nq nr (sRf ad 0 nb) (sRf ad 1 nq) (sRf ad 2 nr) (sRf ad 3 nw) (nI nw) (nI day) co ++ ((([(q_2, .inl (cI, 3, .inl upo)), (q_1, .inl (cI, 5, .inl ofB))] ++ ts) ++ gG a cI cZ Q T nb nq nw nr day nbt nqt nwt dayt co ca bo) ++ sPl nb nq nr nw ad (sEn cI (Q 1) (Q 2) (Q 3) (Q 4) (Q 5) (Q 6) (Q 7) (Q 8) (Q 9) (Q 11) (Q 12) (Q 13) ca sv rl))) ∧ va_S A s.heap H locs ∧ lv_has ls 11 [(5, .int (nI i)), (4, .ref q_2), (3, .ref q_1), (2, .int acc), (0, .ref si), (1, .ref (a 0))] ∧ (i + k = nb)) (fun (zz : Nat × Nat) => match zz with | (k, i) => k) (fun (zz : Nat × Nat) => match zz with | (k, i) => 68 + i) (fun (zz : Nat × Nat) => match zz with | (k, i) => 398 + 6 * i) (nb, 0) (by show _ ≤ 68 + 0; omega) (by show _ ≤ 398 + 6 * 0; omega) ⟨hP, hD, hS, lv_sub hl [0, 1, 2, 3, 4, 5] rfl, (by omega)⟩ ?_
      rintro ⟨k, i⟩ ih H locs ls ⟨hP, hD, hS, hl, hin⟩
      refine W.widen (k := 68 + i) (n := 398 + 6 * i) (Nat.le_refl _) (Nat.le_refl _) ?_
      have hP : va_P D vwCl (sW si fa ob op oc ow cI cW cO (Q 0) nb nq nr (sRf ad 0 nb) (sRf ad 1 nq) (sRf ad 2 nr) (sRf ad 3 nw) (nI nw) (nI day) co ++ ((([(q_2, .inl (cI, 3, .inl upo)), (q_1, .inl (cI, 5, .inl ofB))] ++ ts) ++ gG a cI cZ Q T nb nq nw nr day nbt nqt nwt dayt co ca bo) ++ sPl nb nq nr nw ad (sEn cI (Q 1) (Q 2) (Q 3) (Q 4) (Q 5) (Q 6) (Q 7) (Q 8) (Q 9) (Q 11) (Q 12) (Q 13) ca sv rl))) H := hP
      have hD : va_D A (sW si fa ob op oc ow cI cW cO (Q 0) nb nq nr (sRf ad 0 nb) (sRf ad 1 nq) (sRf ad 2 nr) (sRf ad 3 nw) (nI nw) (nI day) co ++ ((([(q_2, .inl (cI, 3, .inl upo)), (q_1, .inl (cI, 5, .inl ofB))] ++ ts) ++ gG a cI cZ Q T nb nq nw nr day nbt nqt nwt dayt co ca bo) ++ sPl nb nq nr nw ad (sEn cI (Q 1) (Q 2) (Q 3) (Q 4) (Q 5) (Q 6) (Q 7) (Q 8) (Q 9) (Q 11) (Q 12) (Q 13) ca sv rl))) := hD
      have hl : lv_has ls 11 [(5, .int (nI i)), (4, .ref q_2), (3, .ref q_1), (2, .int acc), (0, .ref si), (1, .ref (a 0))] := hl
      have hin : i + k = nb := hin
      have ih414 := ih
      refine lv_iload hx hb dX6_isSame_414 (lv_at hl 0 rfl) ?_
      refine lv_aload_n hx hb dX6_isSame_416 rfl (lv_at hl 4 rfl) ?_
      refine va_get (D := D) (ci := 6) (v := .ref ob) (C := RX6) (T := TX6) (N := 8) hx hb hts wc_X6_isSame_X6 hown hK hP 0 rfl rfl 1 (by decide) (hts _ wd_X6_isSame_4) (fun _ h9 => h9) rfl dX6_isSame_417 ?_
      refine va_alen (v := nI nb) hx hb hK hP 2 3 rfl rfl rfl dX6_isSame_420 ?_
      refine lv_icmp_ge (tgt := 586) hx hb dX6_isSame_421 (by decide) (fun c => ?_) (fun c => ?_)
      · skip
        have hk0 : k = 0 := by have := gw_ge (by omega) (by omega) c; omega
        subst hk0
        have hie : nb = i := by omega
        subst hie
        refine W.widen (k := 73) (n := 428) (by omega) (by omega) ?_
        refine lv_iconst (v := 0) hx hb dX6_isSame_586 (by decide) ?_
        refine lv_istore (lv' := [(5, .int 0), (4, .ref q_2), (3, .ref q_1), (2, .int acc), (0, .ref si), (1, .ref (a 0))]) hx hb dX6_isSame_587 hl (by decide) rfl (fun ls hl => ?_)
        refine gw_loopc (fun (zz : Nat × Nat) H locs ls => match zz with | (k, i) => va_P D vwCl (sW si fa ob op oc ow cI cW cO (Q 0) nb nq nr (sRf ad 0 nb) (sRf ad 1 nq) (sRf ad 2 nr) (sRf ad 3 nw) (nI nw) (nI day) co ++ ((([(q_2, .inl (cI, 3, .inl upo)), (q_1, .inl (cI, 5, .inl ofB))] ++ ts) ++ gG a cI cZ Q T nb nq nw nr day nbt nqt nwt dayt co ca bo) ++ sPl nb nq nr nw ad (sEn cI (Q 1) (Q 2) (Q 3) (Q 4) (Q 5) (Q 6) (Q 7) (Q 8) (Q 9) (Q 11) (Q 12) (Q 13) ca sv rl))) H ∧ va_D A (sW si fa ob op oc ow cI cW cO (Q 0) nb nq nr (sRf ad 0 nb) (sRf ad 1 nq) (sRf ad 2 nr) (sRf ad 3 nw) (nI nw) (nI day) co ++ ((([(q_2, .inl (cI, 3, .inl upo)), (q_1, .inl (cI, 5, .inl ofB))] ++ ts) ++ gG a cI cZ Q T nb nq nw nr day nbt nqt nwt dayt co ca bo) ++ sPl nb nq nr nw ad (sEn cI (Q 1) (Q 2) (Q 3) (Q 4) (Q 5) (Q 6) (Q 7) (Q 8) (Q 9) (Q 11) (Q 12) (Q 13) ca sv rl))) ∧ va_S A s.heap H locs ∧ lv_has ls 11 [(5, .int (nI i)), (4, .ref q_2), (3, .ref q_1), (2, .int acc), (0, .ref si), (1, .ref (a 0))] ∧ (i + k = nr)) (fun (zz : Nat × Nat) => match zz with | (k, i) => k) (fun (zz : Nat × Nat) => match zz with | (k, i) => 73 + i) (fun (zz : Nat × Nat) => match zz with | (k, i) => 428 + 4 * i) (nr, 0) (by show _ ≤ 73 + 0; omega) (by show _ ≤ 428 + 4 * 0; omega) ⟨hP, hD, hS, lv_sub hl [0, 1, 2, 3, 4, 5] rfl, (by omega)⟩ ?_
        rintro ⟨k, i⟩ ih H locs ls ⟨hP, hD, hS, hl, hin⟩
        refine W.widen (k := 73 + i) (n := 428 + 4 * i) (Nat.le_refl _) (Nat.le_refl _) ?_
        have hP : va_P D vwCl (sW si fa ob op oc ow cI cW cO (Q 0) nb nq nr (sRf ad 0 nb) (sRf ad 1 nq) (sRf ad 2 nr) (sRf ad 3 nw) (nI nw) (nI day) co ++ ((([(q_2, .inl (cI, 3, .inl upo)), (q_1, .inl (cI, 5, .inl ofB))] ++ ts) ++ gG a cI cZ Q T nb nq nw nr day nbt nqt nwt dayt co ca bo) ++ sPl nb nq nr nw ad (sEn cI (Q 1) (Q 2) (Q 3) (Q 4) (Q 5) (Q 6) (Q 7) (Q 8) (Q 9) (Q 11) (Q 12) (Q 13) ca sv rl))) H := hP
        have hD : va_D A (sW si fa ob op oc ow cI cW cO (Q 0) nb nq nr (sRf ad 0 nb) (sRf ad 1 nq) (sRf ad 2 nr) (sRf ad 3 nw) (nI nw) (nI day) co ++ ((([(q_2, .inl (cI, 3, .inl upo)), (q_1, .inl (cI, 5, .inl ofB))] ++ ts) ++ gG a cI cZ Q T nb nq nw nr day nbt nqt nwt dayt co ca bo) ++ sPl nb nq nr nw ad (sEn cI (Q 1) (Q 2) (Q 3) (Q 4) (Q 5) (Q 6) (Q 7) (Q 8) (Q 9) (Q 11) (Q 12) (Q 13) ca sv rl))) := hD
        have hl : lv_has ls 11 [(5, .int (nI i)), (4, .ref q_2), (3, .ref q_1), (2, .int acc), (0, .ref si), (1, .ref (a 0))] := hl
        have hin : i + k = nr := hin
        have ih589 := ih
        refine lv_iload hx hb dX6_isSame_589 (lv_at hl 0 rfl) ?_
        refine lv_aload_n hx hb dX6_isSame_591 rfl (lv_at hl 4 rfl) ?_
        refine va_get (D := D) (ci := 6) (v := .ref oc) (C := RX6) (T := TX6) (N := 8) hx hb hts wc_X6_isSame_X6 hown hK hP 0 rfl rfl 3 (by decide) (hts _ wd_X6_isSame_5) (fun _ h9 => h9) rfl dX6_isSame_592 ?_
        refine va_alen (v := nI nr) hx hb hK hP 4 3 rfl rfl rfl dX6_isSame_595 ?_
        refine lv_icmp_ge (tgt := 692) hx hb dX6_isSame_596 (by decide) (fun c => ?_) (fun c => ?_)
        · skip
          have hk0 : k = 0 := by have := gw_ge (by omega) (by omega) c; omega
          subst hk0
          have hie : nr = i := by omega
          subst hie
          refine W.widen (k := 76) (n := 440) (by omega) (by omega) ?_
          refine lv_bipush (v := 10) hx hb dX6_isSame_692 (by decide) ?_
          refine gw_newI hx hb (hts _ wd_X6_isSame_0) hK 0 rfl hP hD hS hA (n := 10) (N' := 10) (by decide) (by decide) (by decide) (Nat.le_of_ble_eq_true rfl) (Nat.le_of_ble_eq_true rfl) dX6_isSame_694 (fun q_7 H hP hD hS => ?_)
          obtain ⟨hP, hD⟩ := gPD_new hP hD
          have hP : va_P D vwCl (sW si fa ob op oc ow cI cW cO (Q 0) nb nq nr (sRf ad 0 nb) (sRf ad 1 nq) (sRf ad 2 nr) (sRf ad 3 nw) (nI nw) (nI day) co ++ ((([(q_7, .inl (cI, 10, .inl (fun _ => 0))), (q_2, .inl (cI, 3, .inl upo)), (q_1, .inl (cI, 5, .inl ofB))] ++ ts) ++ gG a cI cZ Q T nb nq nw nr day nbt nqt nwt dayt co ca bo) ++ sPl nb nq nr nw ad (sEn cI (Q 1) (Q 2) (Q 3) (Q 4) (Q 5) (Q 6) (Q 7) (Q 8) (Q 9) (Q 11) (Q 12) (Q 13) ca sv rl))) _ := hP
          have hD : va_D A (sW si fa ob op oc ow cI cW cO (Q 0) nb nq nr (sRf ad 0 nb) (sRf ad 1 nq) (sRf ad 2 nr) (sRf ad 3 nw) (nI nw) (nI day) co ++ ((([(q_7, .inl (cI, 10, .inl (fun _ => 0))), (q_2, .inl (cI, 3, .inl upo)), (q_1, .inl (cI, 5, .inl ofB))] ++ ts) ++ gG a cI cZ Q T nb nq nw nr day nbt nqt nwt dayt co ca bo) ++ sPl nb nq nr nw ad (sEn cI (Q 1) (Q 2) (Q 3) (Q 4) (Q 5) (Q 6) (Q 7) (Q 8) (Q 9) (Q 11) (Q 12) (Q 13) ca sv rl))) := hD
          refine W.widen (k := 77) (n := 450) (by omega) (by omega) ?_
          refine lv_dup hx hb dX6_isSame_696 rfl ?_
          refine lv_iconst (v := 0) hx hb dX6_isSame_697 (by decide) ?_
          refine lv_aload_n hx hb dX6_isSame_698 rfl (lv_at hl 4 rfl) ?_
          refine va_get (D := D) (ci := 6) (v := .int (nI day)) (C := RX6) (T := TX6) (N := 8) hx hb hts wc_X6_isSame_X6 hown hK hP 0 rfl rfl 6 (by decide) (hts _ wd_X6_isSame_6) (fun _ h9 => h9) rfl dX6_isSame_699 ?_
          refine gw_top2 (y := nI 0) rfl ?_
          refine gw_iast hx hb hK hP hD hS 6 0 (k := 0) rfl rfl (by first | decide | omega) (by decide) dX6_isSame_702 (fun H locs hP hD hS => ?_)
          have hP : va_P D vwCl (sW si fa ob op oc ow cI cW cO (Q 0) nb nq nr (sRf ad 0 nb) (sRf ad 1 nq) (sRf ad 2 nr) (sRf ad 3 nw) (nI nw) (nI day) co ++ ((([(q_7, .inl (cI, 10, .inl (upd (fun _ => 0) 0 (nI day)))), (q_2, .inl (cI, 3, .inl upo)), (q_1, .inl (cI, 5, .inl ofB))] ++ ts) ++ gG a cI cZ Q T nb nq nw nr day nbt nqt nwt dayt co ca bo) ++ sPl nb nq nr nw ad (sEn cI (Q 1) (Q 2) (Q 3) (Q 4) (Q 5) (Q 6) (Q 7) (Q 8) (Q 9) (Q 11) (Q 12) (Q 13) ca sv rl))) _ := hP
          have hD : va_D A (sW si fa ob op oc ow cI cW cO (Q 0) nb nq nr (sRf ad 0 nb) (sRf ad 1 nq) (sRf ad 2 nr) (sRf ad 3 nw) (nI nw) (nI day) co ++ ((([(q_7, .inl (cI, 10, .inl (upd (fun _ => 0) 0 (nI day)))), (q_2, .inl (cI, 3, .inl upo)), (q_1, .inl (cI, 5, .inl ofB))] ++ ts) ++ gG a cI cZ Q T nb nq nw nr day nbt nqt nwt dayt co ca bo) ++ sPl nb nq nr nw ad (sEn cI (Q 1) (Q 2) (Q 3) (Q 4) (Q 5) (Q 6) (Q 7) (Q 8) (Q 9) (Q 11) (Q 12) (Q 13) ca sv rl))) := hD
          refine lv_dup hx hb dX6_isSame_703 rfl ?_
          refine lv_iconst (v := 1) hx hb dX6_isSame_704 (by decide) ?_
          refine lv_aload_n hx hb dX6_isSame_705 rfl (lv_at hl 4 rfl) ?_
          refine va_calli (va_runV (As := []) (rest := [.int 1, .ref q_7, .ref q_7]) ⟨hx, hb, hml, hown, hts⟩ (met_X6_water l D cI cZ cW cO si fa ob op oc ow ad nb nq nr nw day co (Q 0) (Q 1) (Q 2) (Q 3) (Q 4) (Q 5) (Q 6) (Q 7) (Q 8) (Q 9) (Q 11) (Q 12) (Q 13) ca sv rl (([(q_7, .inl (cI, 10, .inl (upd (fun _ => 0) 0 (nI day)))), (q_2, .inl (cI, 3, .inl upo)), (q_1, .inl (cI, 5, .inl ofB))] ++ ts) ++ gG a cI cZ Q T nb nq nw nr day nbt nqt nwt dayt co ca bo) (by omega)) (cwV 0 hts gX6_isSame_X6_water rfl rfl rfl (by decide +kernel) ⟨Nat.le_of_ble_eq_true rfl, Nat.le_of_ble_eq_true rfl⟩) (gv_pvr hK hP 6 rfl rfl rfl) rfl rfl hl.1 rfl (lv_room (Nat.le_of_ble_eq_true rfl)) dX6_isSame_706 ⟨(by show _ ≤ 80; omega), (by show _ ≤ 500; omega)⟩) hS (fun _ _ z => z.elim) (fun _ z => z.elim) (fun r_8 _ t H1 locs ht hvm hw hB hz1 hk1 hS => ?_)
          have hP := gw_ro hP hk1
          generalize H1 = H at hP hS ⊢
          subst hw
          refine gw_top2 (y := nI 1) rfl ?_
          refine gw_iast hx hb hK hP hD hS 6 0 (k := 1) rfl rfl (by first | decide | omega) (by decide) dX6_isSame_709 (fun H locs hP hD hS => ?_)
          have hP : va_P D vwCl (sW si fa ob op oc ow cI cW cO (Q 0) nb nq nr (sRf ad 0 nb) (sRf ad 1 nq) (sRf ad 2 nr) (sRf ad 3 nw) (nI nw) (nI day) co ++ ((([(q_7, .inl (cI, 10, .inl (upd (upd (fun _ => 0) 0 (nI day)) 1 ((Q 0) (day % 9))))), (q_2, .inl (cI, 3, .inl upo)), (q_1, .inl (cI, 5, .inl ofB))] ++ ts) ++ gG a cI cZ Q T nb nq nw nr day nbt nqt nwt dayt co ca bo) ++ sPl nb nq nr nw ad (sEn cI (Q 1) (Q 2) (Q 3) (Q 4) (Q 5) (Q 6) (Q 7) (Q 8) (Q 9) (Q 11) (Q 12) (Q 13) ca sv rl))) _ := hP
          have hD : va_D A (sW si fa ob op oc ow cI cW cO (Q 0) nb nq nr (sRf ad 0 nb) (sRf ad 1 nq) (sRf ad 2 nr) (sRf ad 3 nw) (nI nw) (nI day) co ++ ((([(q_7, .inl (cI, 10, .inl (upd (upd (fun _ => 0) 0 (nI day)) 1 ((Q 0) (day % 9))))), (q_2, .inl (cI, 3, .inl upo)), (q_1, .inl (cI, 5, .inl ofB))] ++ ts) ++ gG a cI cZ Q T nb nq nw nr day nbt nqt nwt dayt co ca bo) ++ sPl nb nq nr nw ad (sEn cI (Q 1) (Q 2) (Q 3) (Q 4) (Q 5) (Q 6) (Q 7) (Q 8) (Q 9) (Q 11) (Q 12) (Q 13) ca sv rl))) := hD
          refine lv_dup hx hb dX6_isSame_710 rfl ?_
          refine lv_iconst (v := 2) hx hb dX6_isSame_711 (by decide) ?_
          refine gw_cut (X := Unit) (fun (zz : Unit) H locs ls => match zz with | _ => va_P D vwCl (sW si fa ob op oc ow cI cW cO (Q 0) nb nq nr (sRf ad 0 nb) (sRf ad 1 nq) (sRf ad 2 nr) (sRf ad 3 nw) (nI nw) (nI day) co ++ ((([(q_7, .inl (cI, 10, .inl (upd (upd (fun _ => 0) 0 (nI day)) 1 ((Q 0) (day % 9))))), (q_2, .inl (cI, 3, .inl upo)), (q_1, .inl (cI, 5, .inl ofB))] ++ ts) ++ gG a cI cZ Q T nb nq nw nr day nbt nqt nwt dayt co ca bo) ++ sPl nb nq nr nw ad (sEn cI (Q 1) (Q 2) (Q 3) (Q 4) (Q 5) (Q 6) (Q 7) (Q 8) (Q 9) (Q 11) (Q 12) (Q 13) ca sv rl))) H ∧ va_D A (sW si fa ob op oc ow cI cW cO (Q 0) nb nq nr (sRf ad 0 nb) (sRf ad 1 nq) (sRf ad 2 nr) (sRf ad 3 nw) (nI nw) (nI day) co ++ ((([(q_7, .inl (cI, 10, .inl (upd (upd (fun _ => 0) 0 (nI day)) 1 ((Q 0) (day % 9))))), (q_2, .inl (cI, 3, .inl upo)), (q_1, .inl (cI, 5, .inl ofB))] ++ ts) ++ gG a cI cZ Q T nb nq nw nr day nbt nqt nwt dayt co ca bo) ++ sPl nb nq nr nw ad (sEn cI (Q 1) (Q 2) (Q 3) (Q 4) (Q 5) (Q 6) (Q 7) (Q 8) (Q 9) (Q 11) (Q 12) (Q 13) ca sv rl))) ∧ va_S A s.heap H locs ∧ lv_has ls 11 [(5, .int (nI nr)), (4, .ref q_2), (3, .ref q_1), (2, .int acc), (0, .ref si), (1, .ref (a 0))] ∧ True) (fun (zz : Unit) ls => match zz with | _ => F0 m 725 ls [.int (if 3 ≤ Q 0 (day % 9) then 1 else 0), .int 2, .ref q_7, .ref q_7]) (77) (450) (fun hK725 => ?_) ?_
          · skip
            refine lv_aload_n hx hb dX6_isSame_712 rfl (lv_at hl 4 rfl) ?_
            refine va_calli (va_runV (As := []) (rest := [.int 2, .ref q_7, .ref q_7]) ⟨hx, hb, hml, hown, hts⟩ (met_X6_water l D cI cZ cW cO si fa ob op oc ow ad nb nq nr nw day co (Q 0) (Q 1) (Q 2) (Q 3) (Q 4) (Q 5) (Q 6) (Q 7) (Q 8) (Q 9) (Q 11) (Q 12) (Q 13) ca sv rl (([(q_7, .inl (cI, 10, .inl (upd (upd (fun _ => 0) 0 (nI day)) 1 ((Q 0) (day % 9))))), (q_2, .inl (cI, 3, .inl upo)), (q_1, .inl (cI, 5, .inl ofB))] ++ ts) ++ gG a cI cZ Q T nb nq nw nr day nbt nqt nwt dayt co ca bo) (by omega)) (cwV 0 hts gX6_isSame_X6_water rfl rfl rfl (by decide +kernel) ⟨Nat.le_of_ble_eq_true rfl, Nat.le_of_ble_eq_true rfl⟩) (gv_pvr hK hP 6 rfl rfl rfl) rfl rfl hl.1 rfl (lv_room (Nat.le_of_ble_eq_true rfl)) dX6_isSame_713 ⟨(by show _ ≤ 80; omega), (by show _ ≤ 500; omega)⟩) hS (fun _ _ z => z.elim) (fun _ z => z.elim) (fun r_9 _ t H1 locs ht hvm hw hB hz1 hk1 hS => ?_)
            have hP := gw_ro hP hk1
            generalize H1 = H at hP hS ⊢
            subst hw
            refine lv_iconst (v := 3) hx hb dX6_isSame_716 (by decide) ?_
            refine lv_icmp_ge (tgt := 724) hx hb dX6_isSame_717 (by decide) (fun m3 => ?_) (fun m3 => ?_)
            · skip
              refine lv_iconst (v := 1) hx hb dX6_isSame_724 (by decide) ?_
              refine gw_top (y := if 3 ≤ Q 0 (day % 9) then 1 else 0) (by first | exact (if_pos m3).symm | exact (if_neg m3).symm) ?_
              exact hK725 () _ _ _ ⟨hP, hD, hS, lv_sub hl [0, 1, 2, 3, 4, 5] rfl, trivial⟩
            · skip
              refine lv_iconst (v := 0) hx hb dX6_isSame_720 (by decide) ?_
              refine lv_goto (tgt := 725) hx hb dX6_isSame_721 (by decide) ?_
              refine gw_top (y := if 3 ≤ Q 0 (day % 9) then 1 else 0) (by first | exact (if_pos m3).symm | exact (if_neg m3).symm) ?_
              exact hK725 () _ _ _ ⟨hP, hD, hS, lv_sub hl [0, 1, 2, 3, 4, 5] rfl, trivial⟩
          · skip
            rintro - H locs ls ⟨hP, hD, hS, hl, -⟩
            have hP : va_P D vwCl (sW si fa ob op oc ow cI cW cO (Q 0) nb nq nr (sRf ad 0 nb) (sRf ad 1 nq) (sRf ad 2 nr) (sRf ad 3 nw) (nI nw) (nI day) co ++ ((([(q_7, .inl (cI, 10, .inl (upd (upd (fun _ => 0) 0 (nI day)) 1 ((Q 0) (day % 9))))), (q_2, .inl (cI, 3, .inl upo)), (q_1, .inl (cI, 5, .inl ofB))] ++ ts) ++ gG a cI cZ Q T nb nq nw nr day nbt nqt nwt dayt co ca bo) ++ sPl nb nq nr nw ad (sEn cI (Q 1) (Q 2) (Q 3) (Q 4) (Q 5) (Q 6) (Q 7) (Q 8) (Q 9) (Q 11) (Q 12) (Q 13) ca sv rl))) H := hP
            have hD : va_D A (sW si fa ob op oc ow cI cW cO (Q 0) nb nq nr (sRf ad 0 nb) (sRf ad 1 nq) (sRf ad 2 nr) (sRf ad 3 nw) (nI nw) (nI day) co ++ ((([(q_7, .inl (cI, 10, .inl (upd (upd (fun _ => 0) 0 (nI day)) 1 ((Q 0) (day % 9))))), (q_2, .inl (cI, 3, .inl upo)), (q_1, .inl (cI, 5, .inl ofB))] ++ ts) ++ gG a cI cZ Q T nb nq nw nr day nbt nqt nwt dayt co ca bo) ++ sPl nb nq nr nw ad (sEn cI (Q 1) (Q 2) (Q 3) (Q 4) (Q 5) (Q 6) (Q 7) (Q 8) (Q 9) (Q 11) (Q 12) (Q 13) ca sv rl))) := hD
            have hl : lv_has ls 11 [(5, .int (nI nr)), (4, .ref q_2), (3, .ref q_1), (2, .int acc), (0, .ref si), (1, .ref (a 0))] := hl
            refine gw_top2 (y := nI 2) rfl ?_
            refine gw_iast hx hb hK hP hD hS 6 0 (k := 2) rfl rfl (by first | decide | omega) (by decide) dX6_isSame_725 (fun H locs hP hD hS => ?_)
            have hP : va_P D vwCl (sW si fa ob op oc ow cI cW cO (Q 0) nb nq nr (sRf ad 0 nb) (sRf ad 1 nq) (sRf ad 2 nr) (sRf ad 3 nw) (nI nw) (nI day) co ++ ((([(q_7, .inl (cI, 10, .inl (upd (upd (upd (fun _ => 0) 0 (nI day)) 1 ((Q 0) (day % 9))) 2 (if 3 ≤ Q 0 (day % 9) then 1 else 0)))), (q_2, .inl (cI, 3, .inl upo)), (q_1, .inl (cI, 5, .inl ofB))] ++ ts) ++ gG a cI cZ Q T nb nq nw nr day nbt nqt nwt dayt co ca bo) ++ sPl nb nq nr nw ad (sEn cI (Q 1) (Q 2) (Q 3) (Q 4) (Q 5) (Q 6) (Q 7) (Q 8) (Q 9) (Q 11) (Q 12) (Q 13) ca sv rl))) _ := hP
            have hD : va_D A (sW si fa ob op oc ow cI cW cO (Q 0) nb nq nr (sRf ad 0 nb) (sRf ad 1 nq) (sRf ad 2 nr) (sRf ad 3 nw) (nI nw) (nI day) co ++ ((([(q_7, .inl (cI, 10, .inl (upd (upd (upd (fun _ => 0) 0 (nI day)) 1 ((Q 0) (day % 9))) 2 (if 3 ≤ Q 0 (day % 9) then 1 else 0)))), (q_2, .inl (cI, 3, .inl upo)), (q_1, .inl (cI, 5, .inl ofB))] ++ ts) ++ gG a cI cZ Q T nb nq nw nr day nbt nqt nwt dayt co ca bo) ++ sPl nb nq nr nw ad (sEn cI (Q 1) (Q 2) (Q 3) (Q 4) (Q 5) (Q 6) (Q 7) (Q 8) (Q 9) (Q 11) (Q 12) (Q 13) ca sv rl))) := hD
            refine lv_dup hx hb dX6_isSame_726 rfl ?_
            refine lv_iconst (v := 3) hx hb dX6_isSame_727 (by decide) ?_
            refine lv_aload_n hx hb dX6_isSame_728 rfl (lv_at hl 4 rfl) ?_
            refine va_get (D := D) (ci := 6) (v := .int (nI nw)) (C := RX6) (T := TX6) (N := 8) hx hb hts wc_X6_isSame_X6 hown hK hP 0 rfl rfl 5 (by decide) (hts _ wd_X6_isSame_2) (fun _ h9 => h9) rfl dX6_isSame_729 ?_
            refine gw_top2 (y := nI 3) rfl ?_
            refine gw_iast hx hb hK hP hD hS 6 0 (k := 3) rfl rfl (by first | decide | omega) (by decide) dX6_isSame_732 (fun H locs hP hD hS => ?_)
            have hP : va_P D vwCl (sW si fa ob op oc ow cI cW cO (Q 0) nb nq nr (sRf ad 0 nb) (sRf ad 1 nq) (sRf ad 2 nr) (sRf ad 3 nw) (nI nw) (nI day) co ++ ((([(q_7, .inl (cI, 10, .inl (upd (upd (upd (upd (fun _ => 0) 0 (nI day)) 1 ((Q 0) (day % 9))) 2 (if 3 ≤ Q 0 (day % 9) then 1 else 0)) 3 (nI nw)))), (q_2, .inl (cI, 3, .inl upo)), (q_1, .inl (cI, 5, .inl ofB))] ++ ts) ++ gG a cI cZ Q T nb nq nw nr day nbt nqt nwt dayt co ca bo) ++ sPl nb nq nr nw ad (sEn cI (Q 1) (Q 2) (Q 3) (Q 4) (Q 5) (Q 6) (Q 7) (Q 8) (Q 9) (Q 11) (Q 12) (Q 13) ca sv rl))) _ := hP
            have hD : va_D A (sW si fa ob op oc ow cI cW cO (Q 0) nb nq nr (sRf ad 0 nb) (sRf ad 1 nq) (sRf ad 2 nr) (sRf ad 3 nw) (nI nw) (nI day) co ++ ((([(q_7, .inl (cI, 10, .inl (upd (upd (upd (upd (fun _ => 0) 0 (nI day)) 1 ((Q 0) (day % 9))) 2 (if 3 ≤ Q 0 (day % 9) then 1 else 0)) 3 (nI nw)))), (q_2, .inl (cI, 3, .inl upo)), (q_1, .inl (cI, 5, .inl ofB))] ++ ts) ++ gG a cI cZ Q T nb nq nw nr day nbt nqt nwt dayt co ca bo) ++ sPl nb nq nr nw ad (sEn cI (Q 1) (Q 2) (Q 3) (Q 4) (Q 5) (Q 6) (Q 7) (Q 8) (Q 9) (Q 11) (Q 12) (Q 13) ca sv rl))) := hD
            refine lv_dup hx hb dX6_isSame_733 rfl ?_
            refine lv_iconst (v := 4) hx hb dX6_isSame_734 (by decide) ?_
            refine lv_aload_n hx hb dX6_isSame_735 rfl (lv_at hl 4 rfl) ?_
            refine lv_iconst (v := 0) hx hb dX6_isSame_736 (by decide) ?_
            refine va_calli (va_runV (As := [.int 0]) (rest := [.int 4, .ref q_7, .ref q_7]) ⟨hx, hb, hml, hown, hts⟩ (met_X6_in l D cI cZ cW cO si fa ob op oc ow ad nb nq nr nw day co (Q 0) (Q 1) (Q 2) (Q 3) (Q 4) (Q 5) (Q 6) (Q 7) (Q 8) (Q 9) (Q 11) (Q 12) (Q 13) ca sv rl (([(q_7, .inl (cI, 10, .inl (upd (upd (upd (upd (fun _ => 0) 0 (nI day)) 1 ((Q 0) (day % 9))) 2 (if 3 ≤ Q 0 (day % 9) then 1 else 0)) 3 (nI nw)))), (q_2, .inl (cI, 3, .inl upo)), (q_1, .inl (cI, 5, .inl ofB))] ++ ts) ++ gG a cI cZ Q T nb nq nw nr day nbt nqt nwt dayt co ca bo) 0 (by first | assumption | omega)) (cwV 1 hts gX6_isSame_X6_in rfl rfl rfl (by decide +kernel) ⟨Nat.le_of_ble_eq_true rfl, Nat.le_of_ble_eq_true rfl⟩) (gv_pvr hK hP 6 rfl rfl rfl) rfl rfl hl.1 rfl (lv_room (Nat.le_of_ble_eq_true rfl)) dX6_isSame_737 ⟨(by show _ ≤ 80; omega), (by show _ ≤ 500; omega)⟩) hS (fun _ _ z => z.elim) (fun _ z => z.elim) (fun r_11 _ t H1 locs ht hvm hw hB hz1 hk1 hS => ?_)
            have hP := gw_ro hP hk1
            generalize H1 = H at hP hS ⊢
            subst hw
            refine gw_top2 (y := nI 4) rfl ?_
            refine gw_iast hx hb hK hP hD hS 6 0 (k := 4) rfl rfl (by first | decide | omega) (by decide) dX6_isSame_740 (fun H locs hP hD hS => ?_)
            have hP : va_P D vwCl (sW si fa ob op oc ow cI cW cO (Q 0) nb nq nr (sRf ad 0 nb) (sRf ad 1 nq) (sRf ad 2 nr) (sRf ad 3 nw) (nI nw) (nI day) co ++ ((([(q_7, .inl (cI, 10, .inl (upd (upd (upd (upd (upd (fun _ => 0) 0 (nI day)) 1 ((Q 0) (day % 9))) 2 (if 3 ≤ Q 0 (day % 9) then 1 else 0)) 3 (nI nw)) 4 (gS (fun j => if (Q 13) j = 0 then 1 else 0) nw 0 0)))), (q_2, .inl (cI, 3, .inl upo)), (q_1, .inl (cI, 5, .inl ofB))] ++ ts) ++ gG a cI cZ Q T nb nq nw nr day nbt nqt nwt dayt co ca bo) ++ sPl nb nq nr nw ad (sEn cI (Q 1) (Q 2) (Q 3) (Q 4) (Q 5) (Q 6) (Q 7) (Q 8) (Q 9) (Q 11) (Q 12) (Q 13) ca sv rl))) _ := hP
            have hD : va_D A (sW si fa ob op oc ow cI cW cO (Q 0) nb nq nr (sRf ad 0 nb) (sRf ad 1 nq) (sRf ad 2 nr) (sRf ad 3 nw) (nI nw) (nI day) co ++ ((([(q_7, .inl (cI, 10, .inl (upd (upd (upd (upd (upd (fun _ => 0) 0 (nI day)) 1 ((Q 0) (day % 9))) 2 (if 3 ≤ Q 0 (day % 9) then 1 else 0)) 3 (nI nw)) 4 (gS (fun j => if (Q 13) j = 0 then 1 else 0) nw 0 0)))), (q_2, .inl (cI, 3, .inl upo)), (q_1, .inl (cI, 5, .inl ofB))] ++ ts) ++ gG a cI cZ Q T nb nq nw nr day nbt nqt nwt dayt co ca bo) ++ sPl nb nq nr nw ad (sEn cI (Q 1) (Q 2) (Q 3) (Q 4) (Q 5) (Q 6) (Q 7) (Q 8) (Q 9) (Q 11) (Q 12) (Q 13) ca sv rl))) := hD
            refine lv_dup hx hb dX6_isSame_741 rfl ?_
            refine lv_iconst (v := 5) hx hb dX6_isSame_742 (by decide) ?_
            refine lv_aload_n hx hb dX6_isSame_743 rfl (lv_at hl 4 rfl) ?_
            refine lv_iconst (v := 1) hx hb dX6_isSame_744 (by decide) ?_
            refine va_calli (va_runV (As := [.int 1]) (rest := [.int 5, .ref q_7, .ref q_7]) ⟨hx, hb, hml, hown, hts⟩ (met_X6_in l D cI cZ cW cO si fa ob op oc ow ad nb nq nr nw day co (Q 0) (Q 1) (Q 2) (Q 3) (Q 4) (Q 5) (Q 6) (Q 7) (Q 8) (Q 9) (Q 11) (Q 12) (Q 13) ca sv rl (([(q_7, .inl (cI, 10, .inl (upd (upd (upd (upd (upd (fun _ => 0) 0 (nI day)) 1 ((Q 0) (day % 9))) 2 (if 3 ≤ Q 0 (day % 9) then 1 else 0)) 3 (nI nw)) 4 (gS (fun j => if (Q 13) j = 0 then 1 else 0) nw 0 0)))), (q_2, .inl (cI, 3, .inl upo)), (q_1, .inl (cI, 5, .inl ofB))] ++ ts) ++ gG a cI cZ Q T nb nq nw nr day nbt nqt nwt dayt co ca bo) 1 (by first | assumption | omega)) (cwV 1 hts gX6_isSame_X6_in rfl rfl rfl (by decide +kernel) ⟨Nat.le_of_ble_eq_true rfl, Nat.le_of_ble_eq_true rfl⟩) (gv_pvr hK hP 6 rfl rfl rfl) rfl rfl hl.1 rfl (lv_room (Nat.le_of_ble_eq_true rfl)) dX6_isSame_745 ⟨(by show _ ≤ 80; omega), (by show _ ≤ 500; omega)⟩) hS (fun _ _ z => z.elim) (fun _ z => z.elim) (fun r_12 _ t H1 locs ht hvm hw hB hz1 hk1 hS => ?_)
            have hP := gw_ro hP hk1
            generalize H1 = H at hP hS ⊢
            subst hw
            refine gw_top2 (y := nI 5) rfl ?_
            refine gw_iast hx hb hK hP hD hS 6 0 (k := 5) rfl rfl (by first | decide | omega) (by decide) dX6_isSame_748 (fun H locs hP hD hS => ?_)
            have hP : va_P D vwCl (sW si fa ob op oc ow cI cW cO (Q 0) nb nq nr (sRf ad 0 nb) (sRf ad 1 nq) (sRf ad 2 nr) (sRf ad 3 nw) (nI nw) (nI day) co ++ ((([(q_7, .inl (cI, 10, .inl (upd (upd (upd (upd (upd (upd (fun _ => 0) 0 (nI day)) 1 ((Q 0) (day % 9))) 2 (if 3 ≤ Q 0 (day % 9) then 1 else 0)) 3 (nI nw)) 4 (gS (fun j => if (Q 13) j = 0 then 1 else 0) nw 0 0)) 5 (gS (fun j => if (Q 13) j = 1 then 1 else 0) nw 0 0)))), (q_2, .inl (cI, 3, .inl upo)), (q_1, .inl (cI, 5, .inl ofB))] ++ ts) ++ gG a cI cZ Q T nb nq nw nr day nbt nqt nwt dayt co ca bo) ++ sPl nb nq nr nw ad (sEn cI (Q 1) (Q 2) (Q 3) (Q 4) (Q 5) (Q 6) (Q 7) (Q 8) (Q 9) (Q 11) (Q 12) (Q 13) ca sv rl))) _ := hP
            have hD : va_D A (sW si fa ob op oc ow cI cW cO (Q 0) nb nq nr (sRf ad 0 nb) (sRf ad 1 nq) (sRf ad 2 nr) (sRf ad 3 nw) (nI nw) (nI day) co ++ ((([(q_7, .inl (cI, 10, .inl (upd (upd (upd (upd (upd (upd (fun _ => 0) 0 (nI day)) 1 ((Q 0) (day % 9))) 2 (if 3 ≤ Q 0 (day % 9) then 1 else 0)) 3 (nI nw)) 4 (gS (fun j => if (Q 13) j = 0 then 1 else 0) nw 0 0)) 5 (gS (fun j => if (Q 13) j = 1 then 1 else 0) nw 0 0)))), (q_2, .inl (cI, 3, .inl upo)), (q_1, .inl (cI, 5, .inl ofB))] ++ ts) ++ gG a cI cZ Q T nb nq nw nr day nbt nqt nwt dayt co ca bo) ++ sPl nb nq nr nw ad (sEn cI (Q 1) (Q 2) (Q 3) (Q 4) (Q 5) (Q 6) (Q 7) (Q 8) (Q 9) (Q 11) (Q 12) (Q 13) ca sv rl))) := hD
            refine lv_dup hx hb dX6_isSame_749 rfl ?_
            refine lv_bipush (v := 6) hx hb dX6_isSame_750 (by decide) ?_
            refine lv_aload_n hx hb dX6_isSame_752 rfl (lv_at hl 4 rfl) ?_
            refine lv_iconst (v := 2) hx hb dX6_isSame_753 (by decide) ?_
            refine va_calli (va_runV (As := [.int 2]) (rest := [.int 6, .ref q_7, .ref q_7]) ⟨hx, hb, hml, hown, hts⟩ (met_X6_in l D cI cZ cW cO si fa ob op oc ow ad nb nq nr nw day co (Q 0) (Q 1) (Q 2) (Q 3) (Q 4) (Q 5) (Q 6) (Q 7) (Q 8) (Q 9) (Q 11) (Q 12) (Q 13) ca sv rl (([(q_7, .inl (cI, 10, .inl (upd (upd (upd (upd (upd (upd (fun _ => 0) 0 (nI day)) 1 ((Q 0) (day % 9))) 2 (if 3 ≤ Q 0 (day % 9) then 1 else 0)) 3 (nI nw)) 4 (gS (fun j => if (Q 13) j = 0 then 1 else 0) nw 0 0)) 5 (gS (fun j => if (Q 13) j = 1 then 1 else 0) nw 0 0)))), (q_2, .inl (cI, 3, .inl upo)), (q_1, .inl (cI, 5, .inl ofB))] ++ ts) ++ gG a cI cZ Q T nb nq nw nr day nbt nqt nwt dayt co ca bo) 2 (by first | assumption | omega)) (cwV 1 hts gX6_isSame_X6_in rfl rfl rfl (by decide +kernel) ⟨Nat.le_of_ble_eq_true rfl, Nat.le_of_ble_eq_true rfl⟩) (gv_pvr hK hP 6 rfl rfl rfl) rfl rfl hl.1 rfl (lv_room (Nat.le_of_ble_eq_true rfl)) dX6_isSame_754 ⟨(by show _ ≤ 80; omega), (by show _ ≤ 500; omega)⟩) hS (fun _ _ z => z.elim) (fun _ z => z.elim) (fun r_13 _ t H1 locs ht hvm hw hB hz1 hk1 hS => ?_)
            have hP := gw_ro hP hk1
            generalize H1 = H at hP hS ⊢
            subst hw
            refine gw_top2 (y := nI 6) rfl ?_
            refine gw_iast hx hb hK hP hD hS 6 0 (k := 6) rfl rfl (by first | decide | omega) (by decide) dX6_isSame_757 (fun H locs hP hD hS => ?_)
            have hP : va_P D vwCl (sW si fa ob op oc ow cI cW cO (Q 0) nb nq nr (sRf ad 0 nb) (sRf ad 1 nq) (sRf ad 2 nr) (sRf ad 3 nw) (nI nw) (nI day) co ++ ((([(q_7, .inl (cI, 10, .inl (upd (upd (upd (upd (upd (upd (upd (fun _ => 0) 0 (nI day)) 1 ((Q 0) (day % 9))) 2 (if 3 ≤ Q 0 (day % 9) then 1 else 0)) 3 (nI nw)) 4 (gS (fun j => if (Q 13) j = 0 then 1 else 0) nw 0 0)) 5 (gS (fun j => if (Q 13) j = 1 then 1 else 0) nw 0 0)) 6 (gS (fun j => if (Q 13) j = 2 then 1 else 0) nw 0 0)))), (q_2, .inl (cI, 3, .inl upo)), (q_1, .inl (cI, 5, .inl ofB))] ++ ts) ++ gG a cI cZ Q T nb nq nw nr day nbt nqt nwt dayt co ca bo) ++ sPl nb nq nr nw ad (sEn cI (Q 1) (Q 2) (Q 3) (Q 4) (Q 5) (Q 6) (Q 7) (Q 8) (Q 9) (Q 11) (Q 12) (Q 13) ca sv rl))) _ := hP
            have hD : va_D A (sW si fa ob op oc ow cI cW cO (Q 0) nb nq nr (sRf ad 0 nb) (sRf ad 1 nq) (sRf ad 2 nr) (sRf ad 3 nw) (nI nw) (nI day) co ++ ((([(q_7, .inl (cI, 10, .inl (upd (upd (upd (upd (upd (upd (upd (fun _ => 0) 0 (nI day)) 1 ((Q 0) (day % 9))) 2 (if 3 ≤ Q 0 (day % 9) then 1 else 0)) 3 (nI nw)) 4 (gS (fun j => if (Q 13) j = 0 then 1 else 0) nw 0 0)) 5 (gS (fun j => if (Q 13) j = 1 then 1 else 0) nw 0 0)) 6 (gS (fun j => if (Q 13) j = 2 then 1 else 0) nw 0 0)))), (q_2, .inl (cI, 3, .inl upo)), (q_1, .inl (cI, 5, .inl ofB))] ++ ts) ++ gG a cI cZ Q T nb nq nw nr day nbt nqt nwt dayt co ca bo) ++ sPl nb nq nr nw ad (sEn cI (Q 1) (Q 2) (Q 3) (Q 4) (Q 5) (Q 6) (Q 7) (Q 8) (Q 9) (Q 11) (Q 12) (Q 13) ca sv rl))) := hD
            refine lv_dup hx hb dX6_isSame_758 rfl ?_
            refine lv_bipush (v := 7) hx hb dX6_isSame_759 (by decide) ?_
            refine lv_aload_n hx hb dX6_isSame_761 rfl (lv_at hl 4 rfl) ?_
            refine lv_iconst (v := 3) hx hb dX6_isSame_762 (by decide) ?_
            refine va_calli (va_runV (As := [.int 3]) (rest := [.int 7, .ref q_7, .ref q_7]) ⟨hx, hb, hml, hown, hts⟩ (met_X6_in l D cI cZ cW cO si fa ob op oc ow ad nb nq nr nw day co (Q 0) (Q 1) (Q 2) (Q 3) (Q 4) (Q 5) (Q 6) (Q 7) (Q 8) (Q 9) (Q 11) (Q 12) (Q 13) ca sv rl (([(q_7, .inl (cI, 10, .inl (upd (upd (upd (upd (upd (upd (upd (fun _ => 0) 0 (nI day)) 1 ((Q 0) (day % 9))) 2 (if 3 ≤ Q 0 (day % 9) then 1 else 0)) 3 (nI nw)) 4 (gS (fun j => if (Q 13) j = 0 then 1 else 0) nw 0 0)) 5 (gS (fun j => if (Q 13) j = 1 then 1 else 0) nw 0 0)) 6 (gS (fun j => if (Q 13) j = 2 then 1 else 0) nw 0 0)))), (q_2, .inl (cI, 3, .inl upo)), (q_1, .inl (cI, 5, .inl ofB))] ++ ts) ++ gG a cI cZ Q T nb nq nw nr day nbt nqt nwt dayt co ca bo) 3 (by first | assumption | omega)) (cwV 1 hts gX6_isSame_X6_in rfl rfl rfl (by decide +kernel) ⟨Nat.le_of_ble_eq_true rfl, Nat.le_of_ble_eq_true rfl⟩) (gv_pvr hK hP 6 rfl rfl rfl) rfl rfl hl.1 rfl (lv_room (Nat.le_of_ble_eq_true rfl)) dX6_isSame_763 ⟨(by show _ ≤ 80; omega), (by show _ ≤ 500; omega)⟩) hS (fun _ _ z => z.elim) (fun _ z => z.elim) (fun r_14 _ t H1 locs ht hvm hw hB hz1 hk1 hS => ?_)
            have hP := gw_ro hP hk1
            generalize H1 = H at hP hS ⊢
            subst hw
            refine gw_top2 (y := nI 7) rfl ?_
            refine gw_iast hx hb hK hP hD hS 6 0 (k := 7) rfl rfl (by first | decide | omega) (by decide) dX6_isSame_766 (fun H locs hP hD hS => ?_)
            have hP : va_P D vwCl (sW si fa ob op oc ow cI cW cO (Q 0) nb nq nr (sRf ad 0 nb) (sRf ad 1 nq) (sRf ad 2 nr) (sRf ad 3 nw) (nI nw) (nI day) co ++ ((([(q_7, .inl (cI, 10, .inl (upd (upd (upd (upd (upd (upd (upd (upd (fun _ => 0) 0 (nI day)) 1 ((Q 0) (day % 9))) 2 (if 3 ≤ Q 0 (day % 9) then 1 else 0)) 3 (nI nw)) 4 (gS (fun j => if (Q 13) j = 0 then 1 else 0) nw 0 0)) 5 (gS (fun j => if (Q 13) j = 1 then 1 else 0) nw 0 0)) 6 (gS (fun j => if (Q 13) j = 2 then 1 else 0) nw 0 0)) 7 (gS (fun j => if (Q 13) j = 3 then 1 else 0) nw 0 0)))), (q_2, .inl (cI, 3, .inl upo)), (q_1, .inl (cI, 5, .inl ofB))] ++ ts) ++ gG a cI cZ Q T nb nq nw nr day nbt nqt nwt dayt co ca bo) ++ sPl nb nq nr nw ad (sEn cI (Q 1) (Q 2) (Q 3) (Q 4) (Q 5) (Q 6) (Q 7) (Q 8) (Q 9) (Q 11) (Q 12) (Q 13) ca sv rl))) _ := hP
            have hD : va_D A (sW si fa ob op oc ow cI cW cO (Q 0) nb nq nr (sRf ad 0 nb) (sRf ad 1 nq) (sRf ad 2 nr) (sRf ad 3 nw) (nI nw) (nI day) co ++ ((([(q_7, .inl (cI, 10, .inl (upd (upd (upd (upd (upd (upd (upd (upd (fun _ => 0) 0 (nI day)) 1 ((Q 0) (day % 9))) 2 (if 3 ≤ Q 0 (day % 9) then 1 else 0)) 3 (nI nw)) 4 (gS (fun j => if (Q 13) j = 0 then 1 else 0) nw 0 0)) 5 (gS (fun j => if (Q 13) j = 1 then 1 else 0) nw 0 0)) 6 (gS (fun j => if (Q 13) j = 2 then 1 else 0) nw 0 0)) 7 (gS (fun j => if (Q 13) j = 3 then 1 else 0) nw 0 0)))), (q_2, .inl (cI, 3, .inl upo)), (q_1, .inl (cI, 5, .inl ofB))] ++ ts) ++ gG a cI cZ Q T nb nq nw nr day nbt nqt nwt dayt co ca bo) ++ sPl nb nq nr nw ad (sEn cI (Q 1) (Q 2) (Q 3) (Q 4) (Q 5) (Q 6) (Q 7) (Q 8) (Q 9) (Q 11) (Q 12) (Q 13) ca sv rl))) := hD
            refine lv_dup hx hb dX6_isSame_767 rfl ?_
            refine lv_bipush (v := 8) hx hb dX6_isSame_768 (by decide) ?_
            refine lv_aload_n hx hb dX6_isSame_770 rfl (lv_at hl 4 rfl) ?_
            refine va_get (D := D) (ci := 6) (v := .int co) (C := RX6) (T := TX6) (N := 8) hx hb hts wc_X6_isSame_X6 hown hK hP 0 rfl rfl 7 (by decide) (hts _ wd_X6_isSame_7) (fun _ h9 => h9) rfl dX6_isSame_771 ?_
            refine gw_top2 (y := nI 8) rfl ?_
            refine gw_iast hx hb hK hP hD hS 6 0 (k := 8) rfl rfl (by first | decide | omega) (by decide) dX6_isSame_774 (fun H locs hP hD hS => ?_)
            have hP : va_P D vwCl (sW si fa ob op oc ow cI cW cO (Q 0) nb nq nr (sRf ad 0 nb) (sRf ad 1 nq) (sRf ad 2 nr) (sRf ad 3 nw) (nI nw) (nI day) co ++ ((([(q_7, .inl (cI, 10, .inl (upd (upd (upd (upd (upd (upd (upd (upd (upd (fun _ => 0) 0 (nI day)) 1 ((Q 0) (day % 9))) 2 (if 3 ≤ Q 0 (day % 9) then 1 else 0)) 3 (nI nw)) 4 (gS (fun j => if (Q 13) j = 0 then 1 else 0) nw 0 0)) 5 (gS (fun j => if (Q 13) j = 1 then 1 else 0) nw 0 0)) 6 (gS (fun j => if (Q 13) j = 2 then 1 else 0) nw 0 0)) 7 (gS (fun j => if (Q 13) j = 3 then 1 else 0) nw 0 0)) 8 co))), (q_2, .inl (cI, 3, .inl upo)), (q_1, .inl (cI, 5, .inl ofB))] ++ ts) ++ gG a cI cZ Q T nb nq nw nr day nbt nqt nwt dayt co ca bo) ++ sPl nb nq nr nw ad (sEn cI (Q 1) (Q 2) (Q 3) (Q 4) (Q 5) (Q 6) (Q 7) (Q 8) (Q 9) (Q 11) (Q 12) (Q 13) ca sv rl))) _ := hP
            have hD : va_D A (sW si fa ob op oc ow cI cW cO (Q 0) nb nq nr (sRf ad 0 nb) (sRf ad 1 nq) (sRf ad 2 nr) (sRf ad 3 nw) (nI nw) (nI day) co ++ ((([(q_7, .inl (cI, 10, .inl (upd (upd (upd (upd (upd (upd (upd (upd (upd (fun _ => 0) 0 (nI day)) 1 ((Q 0) (day % 9))) 2 (if 3 ≤ Q 0 (day % 9) then 1 else 0)) 3 (nI nw)) 4 (gS (fun j => if (Q 13) j = 0 then 1 else 0) nw 0 0)) 5 (gS (fun j => if (Q 13) j = 1 then 1 else 0) nw 0 0)) 6 (gS (fun j => if (Q 13) j = 2 then 1 else 0) nw 0 0)) 7 (gS (fun j => if (Q 13) j = 3 then 1 else 0) nw 0 0)) 8 co))), (q_2, .inl (cI, 3, .inl upo)), (q_1, .inl (cI, 5, .inl ofB))] ++ ts) ++ gG a cI cZ Q T nb nq nw nr day nbt nqt nwt dayt co ca bo) ++ sPl nb nq nr nw ad (sEn cI (Q 1) (Q 2) (Q 3) (Q 4) (Q 5) (Q 6) (Q 7) (Q 8) (Q 9) (Q 11) (Q 12) (Q 13) ca sv rl))) := hD
            refine lv_dup hx hb dX6_isSame_775 rfl ?_
            refine lv_bipush (v := 9) hx hb dX6_isSame_776 (by decide) ?_
            refine lv_aload_n hx hb dX6_isSame_778 rfl (lv_at hl 4 rfl) ?_
            refine va_calli (va_runV (As := []) (rest := [.int 9, .ref q_7, .ref q_7]) ⟨hx, hb, hml, hown, hts⟩ (met_X6_dust l D cI cZ cW cO si fa ob op oc ow ad nb nq nr nw day co (Q 0) (Q 1) (Q 2) (Q 3) (Q 4) (Q 5) (Q 6) (Q 7) (Q 8) (Q 9) (Q 11) (Q 12) (Q 13) ca sv rl (([(q_7, .inl (cI, 10, .inl (upd (upd (upd (upd (upd (upd (upd (upd (upd (fun _ => 0) 0 (nI day)) 1 ((Q 0) (day % 9))) 2 (if 3 ≤ Q 0 (day % 9) then 1 else 0)) 3 (nI nw)) 4 (gS (fun j => if (Q 13) j = 0 then 1 else 0) nw 0 0)) 5 (gS (fun j => if (Q 13) j = 1 then 1 else 0) nw 0 0)) 6 (gS (fun j => if (Q 13) j = 2 then 1 else 0) nw 0 0)) 7 (gS (fun j => if (Q 13) j = 3 then 1 else 0) nw 0 0)) 8 co))), (q_2, .inl (cI, 3, .inl upo)), (q_1, .inl (cI, 5, .inl ofB))] ++ ts) ++ gG a cI cZ Q T nb nq nw nr day nbt nqt nwt dayt co ca bo) (by first | assumption | omega)) (cwV 0 hts gX6_isSame_X6_dust rfl rfl rfl (by decide +kernel) ⟨Nat.le_of_ble_eq_true rfl, Nat.le_of_ble_eq_true rfl⟩) (gv_pvr hK hP 6 rfl rfl rfl) rfl rfl hl.1 rfl (lv_room (Nat.le_of_ble_eq_true rfl)) dX6_isSame_779 ⟨(by show _ ≤ 80; omega), (by show _ ≤ 500; omega)⟩) hS (fun _ _ z => z.elim) (fun _ z => z.elim) (fun r_15 _ t H1 locs ht hvm hw hB hz1 hk1 hS => ?_)
            have hP := gw_ro hP hk1
            generalize H1 = H at hP hS ⊢
            subst hw
            refine gw_top2 (y := nI 9) rfl ?_
            refine gw_iast hx hb hK hP hD hS 6 0 (k := 9) rfl rfl (by first | decide | omega) (by decide) dX6_isSame_782 (fun H locs hP hD hS => ?_)
            have hP : va_P D vwCl (sW si fa ob op oc ow cI cW cO (Q 0) nb nq nr (sRf ad 0 nb) (sRf ad 1 nq) (sRf ad 2 nr) (sRf ad 3 nw) (nI nw) (nI day) co ++ ((([(q_7, .inl (cI, 10, .inl (upd (upd (upd (upd (upd (upd (upd (upd (upd (upd (fun _ => 0) 0 (nI day)) 1 ((Q 0) (day % 9))) 2 (if 3 ≤ Q 0 (day % 9) then 1 else 0)) 3 (nI nw)) 4 (gS (fun j => if (Q 13) j = 0 then 1 else 0) nw 0 0)) 5 (gS (fun j => if (Q 13) j = 1 then 1 else 0) nw 0 0)) 6 (gS (fun j => if (Q 13) j = 2 then 1 else 0) nw 0 0)) 7 (gS (fun j => if (Q 13) j = 3 then 1 else 0) nw 0 0)) 8 co) 9 (gS (Q 7) nq 0 0)))), (q_2, .inl (cI, 3, .inl upo)), (q_1, .inl (cI, 5, .inl ofB))] ++ ts) ++ gG a cI cZ Q T nb nq nw nr day nbt nqt nwt dayt co ca bo) ++ sPl nb nq nr nw ad (sEn cI (Q 1) (Q 2) (Q 3) (Q 4) (Q 5) (Q 6) (Q 7) (Q 8) (Q 9) (Q 11) (Q 12) (Q 13) ca sv rl))) _ := hP
            have hD : va_D A (sW si fa ob op oc ow cI cW cO (Q 0) nb nq nr (sRf ad 0 nb) (sRf ad 1 nq) (sRf ad 2 nr) (sRf ad 3 nw) (nI nw) (nI day) co ++ ((([(q_7, .inl (cI, 10, .inl (upd (upd (upd (upd (upd (upd (upd (upd (upd (upd (fun _ => 0) 0 (nI day)) 1 ((Q 0) (day % 9))) 2 (if 3 ≤ Q 0 (day % 9) then 1 else 0)) 3 (nI nw)) 4 (gS (fun j => if (Q 13) j = 0 then 1 else 0) nw 0 0)) 5 (gS (fun j => if (Q 13) j = 1 then 1 else 0) nw 0 0)) 6 (gS (fun j => if (Q 13) j = 2 then 1 else 0) nw 0 0)) 7 (gS (fun j => if (Q 13) j = 3 then 1 else 0) nw 0 0)) 8 co) 9 (gS (Q 7) nq 0 0)))), (q_2, .inl (cI, 3, .inl upo)), (q_1, .inl (cI, 5, .inl ofB))] ++ ts) ++ gG a cI cZ Q T nb nq nw nr day nbt nqt nwt dayt co ca bo) ++ sPl nb nq nr nw ad (sEn cI (Q 1) (Q 2) (Q 3) (Q 4) (Q 5) (Q 6) (Q 7) (Q 8) (Q 9) (Q 11) (Q 12) (Q 13) ca sv rl))) := hD
            refine lv_astore (lv' := [(5, .ref q_7), (4, .ref q_2), (3, .ref q_1), (2, .int acc), (0, .ref si), (1, .ref (a 0))]) hx hb dX6_isSame_783 hl (by decide) rfl (fun ls hl => ?_)
            refine lv_iconst (v := 0) hx hb dX6_isSame_785 (by decide) ?_
            refine lv_istore (lv' := [(6, .int 0), (5, .ref q_7), (4, .ref q_2), (3, .ref q_1), (2, .int acc), (0, .ref si), (1, .ref (a 0))]) hx hb dX6_isSame_786 hl (by decide) rfl (fun ls hl => ?_)
            refine gw_loop (fun (zz : Nat × Nat) H locs ls => match zz with | (kv, v) => va_P D vwCl (sW si fa ob op oc ow cI cW cO (Q 0) nb nq nr (sRf ad 0 nb) (sRf ad 1 nq) (sRf ad 2 nr) (sRf ad 3 nw) (nI nw) (nI day) co ++ ((([(q_7, .inl (cI, 10, .inl (upd (upd (upd (upd (upd (upd (upd (upd (upd (upd (fun _ => 0) 0 (nI day)) 1 ((Q 0) (day % 9))) 2 (if 3 ≤ Q 0 (day % 9) then 1 else 0)) 3 (nI nw)) 4 (gS (fun j => if (Q 13) j = 0 then 1 else 0) nw 0 0)) 5 (gS (fun j => if (Q 13) j = 1 then 1 else 0) nw 0 0)) 6 (gS (fun j => if (Q 13) j = 2 then 1 else 0) nw 0 0)) 7 (gS (fun j => if (Q 13) j = 3 then 1 else 0) nw 0 0)) 8 co) 9 (gS (Q 7) nq 0 0)))), (q_2, .inl (cI, 3, .inl upo)), (q_1, .inl (cI, 5, .inl ofB))] ++ ts) ++ gG a cI cZ Q T nb nq nw nr day nbt nqt nwt dayt co ca bo) ++ sPl nb nq nr nw ad (sEn cI (Q 1) (Q 2) (Q 3) (Q 4) (Q 5) (Q 6) (Q 7) (Q 8) (Q 9) (Q 11) (Q 12) (Q 13) ca sv rl))) H ∧ va_D A (sW si fa ob op oc ow cI cW cO (Q 0) nb nq nr (sRf ad 0 nb) (sRf ad 1 nq) (sRf ad 2 nr) (sRf ad 3 nw) (nI nw) (nI day) co ++ ((([(q_7, .inl (cI, 10, .inl (upd (upd (upd (upd (upd (upd (upd (upd (upd (upd (fun _ => 0) 0 (nI day)) 1 ((Q 0) (day % 9))) 2 (if 3 ≤ Q 0 (day % 9) then 1 else 0)) 3 (nI nw)) 4 (gS (fun j => if (Q 13) j = 0 then 1 else 0) nw 0 0)) 5 (gS (fun j => if (Q 13) j = 1 then 1 else 0) nw 0 0)) 6 (gS (fun j => if (Q 13) j = 2 then 1 else 0) nw 0 0)) 7 (gS (fun j => if (Q 13) j = 3 then 1 else 0) nw 0 0)) 8 co) 9 (gS (Q 7) nq 0 0)))), (q_2, .inl (cI, 3, .inl upo)), (q_1, .inl (cI, 5, .inl ofB))] ++ ts) ++ gG a cI cZ Q T nb nq nw nr day nbt nqt nwt dayt co ca bo) ++ sPl nb nq nr nw ad (sEn cI (Q 1) (Q 2) (Q 3) (Q 4) (Q 5) (Q 6) (Q 7) (Q 8) (Q 9) (Q 11) (Q 12) (Q 13) ca sv rl))) ∧ va_S A s.heap H locs ∧ lv_has ls 11 [(6, .int (nI v)), (5, .ref q_7), (4, .ref q_2), (3, .ref q_1), (2, .int acc), (0, .ref si), (1, .ref (a 0))] ∧ (v + kv = 10)) (fun (zz : Nat × Nat) => match zz with | (kv, v) => kv) (10, 0) ⟨hP, hD, hS, lv_sub hl [0, 1, 2, 3, 4, 5, 6] rfl, (by omega)⟩ ?_
            rintro ⟨kv, v⟩ ih H locs ls ⟨hP, hD, hS, hl, hvv⟩
            have hP : va_P D vwCl (sW si fa ob op oc ow cI cW cO (Q 0) nb nq nr (sRf ad 0 nb) (sRf ad 1 nq) (sRf ad 2 nr) (sRf ad 3 nw) (nI nw) (nI day) co ++ ((([(q_7, .inl (cI, 10, .inl (upd (upd (upd (upd (upd (upd (upd (upd (upd (upd (fun _ => 0) 0 (nI day)) 1 ((Q 0) (day % 9))) 2 (if 3 ≤ Q 0 (day % 9) then 1 else 0)) 3 (nI nw)) 4 (gS (fun j => if (Q 13) j = 0 then 1 else 0) nw 0 0)) 5 (gS (fun j => if (Q 13) j = 1 then 1 else 0) nw 0 0)) 6 (gS (fun j => if (Q 13) j = 2 then 1 else 0) nw 0 0)) 7 (gS (fun j => if (Q 13) j = 3 then 1 else 0) nw 0 0)) 8 co) 9 (gS (Q 7) nq 0 0)))), (q_2, .inl (cI, 3, .inl upo)), (q_1, .inl (cI, 5, .inl ofB))] ++ ts) ++ gG a cI cZ Q T nb nq nw nr day nbt nqt nwt dayt co ca bo) ++ sPl nb nq nr nw ad (sEn cI (Q 1) (Q 2) (Q 3) (Q 4) (Q 5) (Q 6) (Q 7) (Q 8) (Q 9) (Q 11) (Q 12) (Q 13) ca sv rl))) H := hP
            have hD : va_D A (sW si fa ob op oc ow cI cW cO (Q 0) nb nq nr (sRf ad 0 nb) (sRf ad 1 nq) (sRf ad 2 nr) (sRf ad 3 nw) (nI nw) (nI day) co ++ ((([(q_7, .inl (cI, 10, .inl (upd (upd (upd (upd (upd (upd (upd (upd (upd (upd (fun _ => 0) 0 (nI day)) 1 ((Q 0) (day % 9))) 2 (if 3 ≤ Q 0 (day % 9) then 1 else 0)) 3 (nI nw)) 4 (gS (fun j => if (Q 13) j = 0 then 1 else 0) nw 0 0)) 5 (gS (fun j => if (Q 13) j = 1 then 1 else 0) nw 0 0)) 6 (gS (fun j => if (Q 13) j = 2 then 1 else 0) nw 0 0)) 7 (gS (fun j => if (Q 13) j = 3 then 1 else 0) nw 0 0)) 8 co) 9 (gS (Q 7) nq 0 0)))), (q_2, .inl (cI, 3, .inl upo)), (q_1, .inl (cI, 5, .inl ofB))] ++ ts) ++ gG a cI cZ Q T nb nq nw nr day nbt nqt nwt dayt co ca bo) ++ sPl nb nq nr nw ad (sEn cI (Q 1) (Q 2) (Q 3) (Q 4) (Q 5) (Q 6) (Q 7) (Q 8) (Q 9) (Q 11) (Q 12) (Q 13) ca sv rl))) := hD
            have hl : lv_has ls 11 [(6, .int (nI v)), (5, .ref q_7), (4, .ref q_2), (3, .ref q_1), (2, .int acc), (0, .ref si), (1, .ref (a 0))] := hl
            have hvv : v + kv = 10 := hvv
            have ih788 := ih
            refine lv_iload hx hb dX6_isSame_788 (lv_at hl 0 rfl) ?_
            refine lv_bipush (v := 10) hx hb dX6_isSame_790 (by decide) ?_
            refine lv_icmp_ge (tgt := 817) hx hb dX6_isSame_792 (by decide) (fun cv => ?_) (fun cv => ?_)
            · skip
              refine lv_aload_n hx hb dX6_isSame_817 rfl (lv_at hl 6 rfl) ?_
              refine va_calld (va_runV (As := []) (rest := []) ⟨hx, hb, hml, hown, hts⟩ (met_W_share l D cI cZ cW cO a Q T nb nq nw nr day nbt nqt nwt dayt co ca bo (by first | assumption | omega)) (cwV 0 hts gX6_isSame_X5_share rfl rfl rfl (by decide +kernel) ⟨Nat.le_of_ble_eq_true rfl, Nat.le_of_ble_eq_true rfl⟩) (gv_pvr hK (gP_G hP) 5 rfl rfl rfl) rfl rfl hl.1 rfl (lv_room (Nat.le_of_ble_eq_true rfl)) dX6_isSame_818 ⟨(by show _ ≤ 80; omega), (by show _ ≤ 500; omega)⟩) hS (fun _ _ z => z.elim) (fun _ z => z.elim) (fun r_17 _ t H1 locs ht hvm hw hB hz1 hk1 hS => ?_)
              have hP := gw_ro hP hk1
              generalize H1 = H at hP hS ⊢
              subst hw
              refine lv_aload_n hx hb dX6_isSame_821 rfl (lv_at hl 5 rfl) ?_
              refine va_get (D := D) (ci := 6) (v := .int (nI nw)) (C := RX6) (T := TX6) (N := 8) hx hb hts wc_X6_isSame_X6 hown hK hP 0 rfl rfl 5 (by decide) (hts _ wd_X6_isSame_2) (fun _ h9 => h9) rfl dX6_isSame_822 ?_
              refine lv_if_ne (tgt := 832) hx hb dX6_isSame_825 (by decide) (fun z0 => ?_) (fun z0 => ?_)
              · skip
                have hn0 : ¬ nw = 0 := fun e9 => z0 (by rw [e9]; rfl)
                refine lv_iload_n hx hb dX6_isSame_832 rfl (lv_at hl 4 rfl) ?_
                refine lv_i2d hx hb dX6_isSame_833 ?_
                refine lv_aload_n hx hb dX6_isSame_834 rfl (lv_at hl 5 rfl) ?_
                refine va_get (D := D) (ci := 6) (v := .int (nI nw)) (C := RX6) (T := TX6) (N := 8) hx hb hts wc_X6_isSame_X6 hown hK hP 0 rfl rfl 5 (by decide) (hts _ wd_X6_isSame_2) (fun _ h9 => h9) rfl dX6_isSame_835 ?_
                refine lv_i2d hx hb dX6_isSame_838 ?_
                refine lv_ddiv hx hb dX6_isSame_839 (by rw [hF]; exact gShare_nn hnw hn0) ?_
                refine lv_dcmp hx hb dX6_isSame_840 ?_
                refine lv_if_ne (tgt := 848) hx hb dX6_isSame_841 (by decide) (fun c_19 => (by first | exact absurd c_19 (by first | exact ss_dc0 hn0 | (rw [hF]; exact ss_dc hnw hn0)) | exact absurd (by first | exact ss_dc0 hn0 | (rw [hF]; exact ss_dc hnw hn0)) c_19)) (fun c_19 => ?_)
                refine lv_iconst (v := 1) hx hb dX6_isSame_844 (by decide) ?_
                refine lv_goto (tgt := 849) hx hb dX6_isSame_845 (by decide) ?_
                refine W.widen (k := 80) (n := 500) (by omega) (by omega) ?_
                exact W.zret (v := 1) hx hb hr rfl (fun t ht hW => ⟨⟨_, (), rfl, rfl, (trivial)⟩, hS.F ht⟩) hS.2.2 dX6_isSame_849
              · skip
                have hn0 : nw = 0 := (nI_eq (b := 0) (by omega) (by omega)).mp z0
                refine lv_dconst0 hx hb dX6_isSame_828 ?_
                refine lv_goto (tgt := 840) hx hb dX6_isSame_829 (by decide) ?_
                refine lv_dcmp hx hb dX6_isSame_840 ?_
                refine lv_if_ne (tgt := 848) hx hb dX6_isSame_841 (by decide) (fun c_20 => (by first | exact absurd c_20 (by first | exact ss_dc0 hn0 | (rw [hF]; exact ss_dc hnw hn0)) | exact absurd (by first | exact ss_dc0 hn0 | (rw [hF]; exact ss_dc hnw hn0)) c_20)) (fun c_20 => ?_)
                refine lv_iconst (v := 1) hx hb dX6_isSame_844 (by decide) ?_
                refine lv_goto (tgt := 849) hx hb dX6_isSame_845 (by decide) ?_
                refine W.widen (k := 80) (n := 500) (by omega) (by omega) ?_
                exact W.zret (v := 1) hx hb hr rfl (fun t ht hW => ⟨⟨_, (), rfl, rfl, (trivial)⟩, hS.F ht⟩) hS.2.2 dX6_isSame_849
            · skip
              have hv : v < 10 := gw_lt (n := 10) (by omega) (by omega) cv
              obtain ⟨kv, rfl⟩ : ∃ k2, kv = k2 + 1 := ⟨kv - 1, by omega⟩
              refine lv_aload_n hx hb dX6_isSame_795 rfl (lv_at hl 6 rfl) ?_
              refine lv_iload hx hb dX6_isSame_796 (lv_at hl 0 rfl) ?_
              refine va_calli (va_runV (As := [.int (nI v)]) (rest := []) ⟨hx, hb, hml, hown, hts⟩ (met_W_count l D cI cZ cW cO a Q T nb nq nw nr day nbt nqt nwt dayt co ca bo v hv (by first | assumption | omega) (by first | assumption | omega) (by omega)) (cwV 1 hts gX6_isSame_X5_count rfl rfl rfl (by decide +kernel) ⟨Nat.le_of_ble_eq_true rfl, Nat.le_of_ble_eq_true rfl⟩) (gv_pvr hK (gP_G hP) 5 rfl rfl rfl) rfl rfl hl.1 rfl (lv_room (Nat.le_of_ble_eq_true rfl)) dX6_isSame_798 ⟨(by show _ ≤ 80; omega), (by show _ ≤ 500; omega)⟩) hS (fun _ _ z => z.elim) (fun _ z => z.elim) (fun r_21 _ t H1 locs ht hvm hw hB hz1 hk1 hS => ?_)
              have hP := gw_ro hP hk1
              generalize H1 = H at hP hS ⊢
              subst hw
              refine lv_aload hx hb dX6_isSame_801 (lv_at hl 1 rfl) ?_
              refine lv_iload hx hb dX6_isSame_803 (lv_at hl 0 rfl) ?_
              refine gw_iald hx hb hK hP 6 0 (k := v) rfl rfl hv (by decide) dX6_isSame_805 ?_
              refine lv_icmp_eq (tgt := 811) hx hb dX6_isSame_806 (by decide) (fun c_22 => ?_) (fun c_22 => (by first | exact absurd c_22 (sn_10 v hv).symm | exact absurd (sn_10 v hv).symm c_22))
              refine lv_iinc (v := nI (v + 1)) (lv' := [(6, .int (nI (v + 1))), (5, .ref q_7), (4, .ref q_2), (3, .ref q_1), (2, .int acc), (0, .ref si), (1, .ref (a 0))]) hx hb dX6_isSame_811 hl (k := 0) rfl (nI_add v 1) (by decide) rfl (fun ls hl => ?_)
              refine lv_goto (tgt := 788) hx hb dX6_isSame_814 (by decide) ?_
              exact ih788 (kv, v + 1) H locs ls (by dsimp only; omega) ⟨hP, hD, hS, lv_sub hl [0, 1, 2, 3, 4, 5, 6] rfl, (by omega)⟩
        · skip
          have hi : i < nr := gw_lt (by omega) (by omega) c
          obtain ⟨k, rfl⟩ : ∃ k2, k = k2 + 1 := ⟨k - 1, by omega⟩
          refine lv_iconst (v := 4) hx hb dX6_isSame_599 (by decide) ?_
          refine gw_newI hx hb (hts _ wd_X6_isSame_0) hK 0 rfl hP hD hS hA (n := 4) (N' := 4) (by decide) (by decide) (by decide) (by show _ ≤ 80; omega) (by show _ ≤ 500; omega) dX6_isSame_600 (fun q_23 H hP hD hS => ?_)
          obtain ⟨hP, hD⟩ := gPD_new hP hD
          have hP : va_P D vwCl (sW si fa ob op oc ow cI cW cO (Q 0) nb nq nr (sRf ad 0 nb) (sRf ad 1 nq) (sRf ad 2 nr) (sRf ad 3 nw) (nI nw) (nI day) co ++ ((([(q_23, .inl (cI, 4, .inl (fun _ => 0))), (q_2, .inl (cI, 3, .inl upo)), (q_1, .inl (cI, 5, .inl ofB))] ++ ts) ++ gG a cI cZ Q T nb nq nw nr day nbt nqt nwt dayt co ca bo) ++ sPl nb nq nr nw ad (sEn cI (Q 1) (Q 2) (Q 3) (Q 4) (Q 5) (Q 6) (Q 7) (Q 8) (Q 9) (Q 11) (Q 12) (Q 13) ca sv rl))) _ := hP
          have hD : va_D A (sW si fa ob op oc ow cI cW cO (Q 0) nb nq nr (sRf ad 0 nb) (sRf ad 1 nq) (sRf ad 2 nr) (sRf ad 3 nw) (nI nw) (nI day) co ++ ((([(q_23, .inl (cI, 4, .inl (fun _ => 0))), (q_2, .inl (cI, 3, .inl upo)), (q_1, .inl (cI, 5, .inl ofB))] ++ ts) ++ gG a cI cZ Q T nb nq nw nr day nbt nqt nwt dayt co ca bo) ++ sPl nb nq nr nw ad (sEn cI (Q 1) (Q 2) (Q 3) (Q 4) (Q 5) (Q 6) (Q 7) (Q 8) (Q 9) (Q 11) (Q 12) (Q 13) ca sv rl))) := hD
          refine W.widen (k := 74 + i) (n := 432 + 4 * i) (by omega) (by omega) ?_
          refine lv_dup hx hb dX6_isSame_602 rfl ?_
          refine lv_iconst (v := 0) hx hb dX6_isSame_603 (by decide) ?_
          refine lv_aload_n hx hb dX6_isSame_604 rfl (lv_at hl 4 rfl) ?_
          refine va_get (D := D) (ci := 6) (v := .ref oc) (C := RX6) (T := TX6) (N := 8) hx hb hts wc_X6_isSame_X6 hown hK hP 0 rfl rfl 3 (by decide) (hts _ wd_X6_isSame_5) (fun _ h9 => h9) rfl dX6_isSame_605 ?_
          refine lv_iload hx hb dX6_isSame_608 (lv_at hl 0 rfl) ?_
          refine gw_aldA hx hb hK hP 4 3 (k := i) (v := ad (2, i)) rfl rfl (sRf_at hi) hi (by omega) dX6_isSame_610 ?_
          refine lv_iconst (v := 0) hx hb dX6_isSame_611 (by decide) ?_
          obtain ⟨i_24, hi_24, si_24⟩ := sAt2 (k := i) hP hi
          refine gw_top (y := nI 0) rfl ?_
          refine gw_iald hx hb hK hP i_24 0 (k := 0) hi_24 rfl (by first | decide | omega) (by decide) dX6_isSame_612 ?_
          refine gw_top (y := ca i) rfl ?_
          refine gw_top2 (y := nI 0) rfl ?_
          refine gw_iast hx hb hK hP hD hS 6 0 (k := 0) rfl rfl (by first | decide | omega) (by decide) dX6_isSame_613 (fun H locs hP hD hS => ?_)
          have hP : va_P D vwCl (sW si fa ob op oc ow cI cW cO (Q 0) nb nq nr (sRf ad 0 nb) (sRf ad 1 nq) (sRf ad 2 nr) (sRf ad 3 nw) (nI nw) (nI day) co ++ ((([(q_23, .inl (cI, 4, .inl (upd (fun _ => 0) 0 (ca i)))), (q_2, .inl (cI, 3, .inl upo)), (q_1, .inl (cI, 5, .inl ofB))] ++ ts) ++ gG a cI cZ Q T nb nq nw nr day nbt nqt nwt dayt co ca bo) ++ sPl nb nq nr nw ad (sEn cI (Q 1) (Q 2) (Q 3) (Q 4) (Q 5) (Q 6) (Q 7) (Q 8) (Q 9) (Q 11) (Q 12) (Q 13) ca sv rl))) _ := hP
          have hD : va_D A (sW si fa ob op oc ow cI cW cO (Q 0) nb nq nr (sRf ad 0 nb) (sRf ad 1 nq) (sRf ad 2 nr) (sRf ad 3 nw) (nI nw) (nI day) co ++ ((([(q_23, .inl (cI, 4, .inl (upd (fun _ => 0) 0 (ca i)))), (q_2, .inl (cI, 3, .inl upo)), (q_1, .inl (cI, 5, .inl ofB))] ++ ts) ++ gG a cI cZ Q T nb nq nw nr day nbt nqt nwt dayt co ca bo) ++ sPl nb nq nr nw ad (sEn cI (Q 1) (Q 2) (Q 3) (Q 4) (Q 5) (Q 6) (Q 7) (Q 8) (Q 9) (Q 11) (Q 12) (Q 13) ca sv rl))) := hD
          refine lv_dup hx hb dX6_isSame_614 rfl ?_
          refine lv_iconst (v := 1) hx hb dX6_isSame_615 (by decide) ?_
          refine lv_aload_n hx hb dX6_isSame_616 rfl (lv_at hl 4 rfl) ?_
          refine lv_iload hx hb dX6_isSame_617 (lv_at hl 0 rfl) ?_
          refine va_calli (va_runV (As := [.int (nI i)]) (rest := [.int 1, .ref q_23, .ref q_23]) ⟨hx, hb, hml, hown, hts⟩ (met_X6_left l D cI cZ cW cO si fa ob op oc ow ad nb nq nr nw day co (Q 0) (Q 1) (Q 2) (Q 3) (Q 4) (Q 5) (Q 6) (Q 7) (Q 8) (Q 9) (Q 11) (Q 12) (Q 13) ca sv rl (([(q_23, .inl (cI, 4, .inl (upd (fun _ => 0) 0 (ca i)))), (q_2, .inl (cI, 3, .inl upo)), (q_1, .inl (cI, 5, .inl ofB))] ++ ts) ++ gG a cI cZ Q T nb nq nw nr day nbt nqt nwt dayt co ca bo) i hi (by first | assumption | omega) (by first | assumption | omega)) (cwV 1 hts gX6_isSame_X6_left rfl rfl rfl (by decide +kernel) ⟨Nat.le_of_ble_eq_true rfl, Nat.le_of_ble_eq_true rfl⟩) (gv_pvr hK hP 6 rfl rfl rfl) rfl rfl hl.1 rfl (lv_room (Nat.le_of_ble_eq_true rfl)) dX6_isSame_619 ⟨(by show _ ≤ 80; omega), (by show _ ≤ 500; omega)⟩) hS (fun _ _ z => z.elim) (fun _ z => z.elim) (fun r_25 _ t H1 locs ht hvm hw hB hz1 hk1 hS => ?_)
          have hP := gw_ro hP hk1
          generalize H1 = H at hP hS ⊢
          subst hw
          refine gw_top (y := gStill Q nw ca i) (hX.left (by omega)) ?_
          refine gw_top2 (y := nI 1) rfl ?_
          refine gw_iast hx hb hK hP hD hS 6 0 (k := 1) rfl rfl (by first | decide | omega) (by decide) dX6_isSame_622 (fun H locs hP hD hS => ?_)
          have hP : va_P D vwCl (sW si fa ob op oc ow cI cW cO (Q 0) nb nq nr (sRf ad 0 nb) (sRf ad 1 nq) (sRf ad 2 nr) (sRf ad 3 nw) (nI nw) (nI day) co ++ ((([(q_23, .inl (cI, 4, .inl (upd (upd (fun _ => 0) 0 (ca i)) 1 (gStill Q nw ca i)))), (q_2, .inl (cI, 3, .inl upo)), (q_1, .inl (cI, 5, .inl ofB))] ++ ts) ++ gG a cI cZ Q T nb nq nw nr day nbt nqt nwt dayt co ca bo) ++ sPl nb nq nr nw ad (sEn cI (Q 1) (Q 2) (Q 3) (Q 4) (Q 5) (Q 6) (Q 7) (Q 8) (Q 9) (Q 11) (Q 12) (Q 13) ca sv rl))) _ := hP
          have hD : va_D A (sW si fa ob op oc ow cI cW cO (Q 0) nb nq nr (sRf ad 0 nb) (sRf ad 1 nq) (sRf ad 2 nr) (sRf ad 3 nw) (nI nw) (nI day) co ++ ((([(q_23, .inl (cI, 4, .inl (upd (upd (fun _ => 0) 0 (ca i)) 1 (gStill Q nw ca i)))), (q_2, .inl (cI, 3, .inl upo)), (q_1, .inl (cI, 5, .inl ofB))] ++ ts) ++ gG a cI cZ Q T nb nq nw nr day nbt nqt nwt dayt co ca bo) ++ sPl nb nq nr nw ad (sEn cI (Q 1) (Q 2) (Q 3) (Q 4) (Q 5) (Q 6) (Q 7) (Q 8) (Q 9) (Q 11) (Q 12) (Q 13) ca sv rl))) := hD
          refine lv_dup hx hb dX6_isSame_623 rfl ?_
          refine lv_iconst (v := 2) hx hb dX6_isSame_624 (by decide) ?_
          refine lv_aload hx hb dX6_isSame_625 (lv_at hl 1 rfl) ?_
          refine lv_iload hx hb dX6_isSame_627 (lv_at hl 0 rfl) ?_
          refine gw_iald hx hb hK hP 7 0 (k := i) rfl rfl (by omega) (by decide) dX6_isSame_629 ?_
          refine gw_top (y := gOn Q nw i) (hFU i (by omega)) ?_
          refine gw_top2 (y := nI 2) rfl ?_
          refine gw_iast hx hb hK hP hD hS 6 0 (k := 2) rfl rfl (by first | decide | omega) (by decide) dX6_isSame_630 (fun H locs hP hD hS => ?_)
          have hP : va_P D vwCl (sW si fa ob op oc ow cI cW cO (Q 0) nb nq nr (sRf ad 0 nb) (sRf ad 1 nq) (sRf ad 2 nr) (sRf ad 3 nw) (nI nw) (nI day) co ++ ((([(q_23, .inl (cI, 4, .inl (upd (upd (upd (fun _ => 0) 0 (ca i)) 1 (gStill Q nw ca i)) 2 (gOn Q nw i)))), (q_2, .inl (cI, 3, .inl upo)), (q_1, .inl (cI, 5, .inl ofB))] ++ ts) ++ gG a cI cZ Q T nb nq nw nr day nbt nqt nwt dayt co ca bo) ++ sPl nb nq nr nw ad (sEn cI (Q 1) (Q 2) (Q 3) (Q 4) (Q 5) (Q 6) (Q 7) (Q 8) (Q 9) (Q 11) (Q 12) (Q 13) ca sv rl))) _ := hP
          have hD : va_D A (sW si fa ob op oc ow cI cW cO (Q 0) nb nq nr (sRf ad 0 nb) (sRf ad 1 nq) (sRf ad 2 nr) (sRf ad 3 nw) (nI nw) (nI day) co ++ ((([(q_23, .inl (cI, 4, .inl (upd (upd (upd (fun _ => 0) 0 (ca i)) 1 (gStill Q nw ca i)) 2 (gOn Q nw i)))), (q_2, .inl (cI, 3, .inl upo)), (q_1, .inl (cI, 5, .inl ofB))] ++ ts) ++ gG a cI cZ Q T nb nq nw nr day nbt nqt nwt dayt co ca bo) ++ sPl nb nq nr nw ad (sEn cI (Q 1) (Q 2) (Q 3) (Q 4) (Q 5) (Q 6) (Q 7) (Q 8) (Q 9) (Q 11) (Q 12) (Q 13) ca sv rl))) := hD
          refine lv_dup hx hb dX6_isSame_631 rfl ?_
          refine lv_iconst (v := 3) hx hb dX6_isSame_632 (by decide) ?_
          refine gw_cut (X := Unit) (fun (zz : Unit) H locs ls => match zz with | _ => va_P D vwCl (sW si fa ob op oc ow cI cW cO (Q 0) nb nq nr (sRf ad 0 nb) (sRf ad 1 nq) (sRf ad 2 nr) (sRf ad 3 nw) (nI nw) (nI day) co ++ ((([(q_23, .inl (cI, 4, .inl (upd (upd (upd (fun _ => 0) 0 (ca i)) 1 (gStill Q nw ca i)) 2 (gOn Q nw i)))), (q_2, .inl (cI, 3, .inl upo)), (q_1, .inl (cI, 5, .inl ofB))] ++ ts) ++ gG a cI cZ Q T nb nq nw nr day nbt nqt nwt dayt co ca bo) ++ sPl nb nq nr nw ad (sEn cI (Q 1) (Q 2) (Q 3) (Q 4) (Q 5) (Q 6) (Q 7) (Q 8) (Q 9) (Q 11) (Q 12) (Q 13) ca sv rl))) H ∧ va_D A (sW si fa ob op oc ow cI cW cO (Q 0) nb nq nr (sRf ad 0 nb) (sRf ad 1 nq) (sRf ad 2 nr) (sRf ad 3 nw) (nI nw) (nI day) co ++ ((([(q_23, .inl (cI, 4, .inl (upd (upd (upd (fun _ => 0) 0 (ca i)) 1 (gStill Q nw ca i)) 2 (gOn Q nw i)))), (q_2, .inl (cI, 3, .inl upo)), (q_1, .inl (cI, 5, .inl ofB))] ++ ts) ++ gG a cI cZ Q T nb nq nw nr day nbt nqt nwt dayt co ca bo) ++ sPl nb nq nr nw ad (sEn cI (Q 1) (Q 2) (Q 3) (Q 4) (Q 5) (Q 6) (Q 7) (Q 8) (Q 9) (Q 11) (Q 12) (Q 13) ca sv rl))) ∧ va_S A s.heap H locs ∧ lv_has ls 11 [(5, .int (nI i)), (4, .ref q_2), (3, .ref q_1), (2, .int acc), (0, .ref si), (1, .ref (a 0))] ∧ True) (fun (zz : Unit) ls => match zz with | _ => F0 m 650 ls [.int (if nI day < bo i then 1 else 0), .int 3, .ref q_23, .ref q_23]) (74 + i) (432 + 4 * i) (fun hK650 => ?_) ?_
          · skip
            refine lv_aload_n hx hb dX6_isSame_633 rfl (lv_at hl 4 rfl) ?_
            refine va_get (D := D) (ci := 6) (v := .ref oc) (C := RX6) (T := TX6) (N := 8) hx hb hts wc_X6_isSame_X6 hown hK hP 0 rfl rfl 3 (by decide) (hts _ wd_X6_isSame_5) (fun _ h9 => h9) rfl dX6_isSame_634 ?_
            refine lv_iload hx hb dX6_isSame_637 (lv_at hl 0 rfl) ?_
            refine gw_aldA hx hb hK hP 4 3 (k := i) (v := ad (2, i)) rfl rfl (sRf_at hi) hi (by omega) dX6_isSame_639 ?_
            refine lv_iconst (v := 1) hx hb dX6_isSame_640 (by decide) ?_
            obtain ⟨i_26, hi_26, si_26⟩ := sAt2 (k := i) hP hi
            refine gw_top (y := nI 1) rfl ?_
            refine gw_iald hx hb hK hP i_26 0 (k := 1) hi_26 rfl (by first | decide | omega) (by decide) dX6_isSame_641 ?_
            refine gw_top (y := sv i) rfl ?_
            refine lv_if_ge (tgt := 649) hx hb dX6_isSame_642 (by decide) (fun a1 => ?_) (fun a1 => ?_)
            · skip
              refine lv_iconst (v := 1) hx hb dX6_isSame_649 (by decide) ?_
              refine gw_top (y := if nI day < bo i then 1 else 0) (by first | exact (if_pos (Classical.byContradiction fun e9 => absurd a1 (by rw [(hI.away hi).mpr e9]; decide))).symm | exact (if_neg ((hI.away hi).mp (sk_away hI hi a1))).symm) ?_
              exact hK650 () _ _ _ ⟨hP, hD, hS, lv_sub hl [0, 1, 2, 3, 4, 5] rfl, trivial⟩
            · skip
              refine lv_iconst (v := 0) hx hb dX6_isSame_645 (by decide) ?_
              refine lv_goto (tgt := 650) hx hb dX6_isSame_646 (by decide) ?_
              refine gw_top (y := if nI day < bo i then 1 else 0) (by first | exact (if_pos (Classical.byContradiction fun e9 => absurd a1 (by rw [(hI.away hi).mpr e9]; decide))).symm | exact (if_neg ((hI.away hi).mp (sk_away hI hi a1))).symm) ?_
              exact hK650 () _ _ _ ⟨hP, hD, hS, lv_sub hl [0, 1, 2, 3, 4, 5] rfl, trivial⟩
          · skip
            rintro - H locs ls ⟨hP, hD, hS, hl, -⟩
            have hP : va_P D vwCl (sW si fa ob op oc ow cI cW cO (Q 0) nb nq nr (sRf ad 0 nb) (sRf ad 1 nq) (sRf ad 2 nr) (sRf ad 3 nw) (nI nw) (nI day) co ++ ((([(q_23, .inl (cI, 4, .inl (upd (upd (upd (fun _ => 0) 0 (ca i)) 1 (gStill Q nw ca i)) 2 (gOn Q nw i)))), (q_2, .inl (cI, 3, .inl upo)), (q_1, .inl (cI, 5, .inl ofB))] ++ ts) ++ gG a cI cZ Q T nb nq nw nr day nbt nqt nwt dayt co ca bo) ++ sPl nb nq nr nw ad (sEn cI (Q 1) (Q 2) (Q 3) (Q 4) (Q 5) (Q 6) (Q 7) (Q 8) (Q 9) (Q 11) (Q 12) (Q 13) ca sv rl))) H := hP
            have hD : va_D A (sW si fa ob op oc ow cI cW cO (Q 0) nb nq nr (sRf ad 0 nb) (sRf ad 1 nq) (sRf ad 2 nr) (sRf ad 3 nw) (nI nw) (nI day) co ++ ((([(q_23, .inl (cI, 4, .inl (upd (upd (upd (fun _ => 0) 0 (ca i)) 1 (gStill Q nw ca i)) 2 (gOn Q nw i)))), (q_2, .inl (cI, 3, .inl upo)), (q_1, .inl (cI, 5, .inl ofB))] ++ ts) ++ gG a cI cZ Q T nb nq nw nr day nbt nqt nwt dayt co ca bo) ++ sPl nb nq nr nw ad (sEn cI (Q 1) (Q 2) (Q 3) (Q 4) (Q 5) (Q 6) (Q 7) (Q 8) (Q 9) (Q 11) (Q 12) (Q 13) ca sv rl))) := hD
            have hl : lv_has ls 11 [(5, .int (nI i)), (4, .ref q_2), (3, .ref q_1), (2, .int acc), (0, .ref si), (1, .ref (a 0))] := hl
            refine gw_top2 (y := nI 3) rfl ?_
            refine gw_iast hx hb hK hP hD hS 6 0 (k := 3) rfl rfl (by first | decide | omega) (by decide) dX6_isSame_650 (fun H locs hP hD hS => ?_)
            have hP : va_P D vwCl (sW si fa ob op oc ow cI cW cO (Q 0) nb nq nr (sRf ad 0 nb) (sRf ad 1 nq) (sRf ad 2 nr) (sRf ad 3 nw) (nI nw) (nI day) co ++ ((([(q_23, .inl (cI, 4, .inl (upd (upd (upd (upd (fun _ => 0) 0 (ca i)) 1 (gStill Q nw ca i)) 2 (gOn Q nw i)) 3 (if nI day < bo i then 1 else 0)))), (q_2, .inl (cI, 3, .inl upo)), (q_1, .inl (cI, 5, .inl ofB))] ++ ts) ++ gG a cI cZ Q T nb nq nw nr day nbt nqt nwt dayt co ca bo) ++ sPl nb nq nr nw ad (sEn cI (Q 1) (Q 2) (Q 3) (Q 4) (Q 5) (Q 6) (Q 7) (Q 8) (Q 9) (Q 11) (Q 12) (Q 13) ca sv rl))) _ := hP
            have hD : va_D A (sW si fa ob op oc ow cI cW cO (Q 0) nb nq nr (sRf ad 0 nb) (sRf ad 1 nq) (sRf ad 2 nr) (sRf ad 3 nw) (nI nw) (nI day) co ++ ((([(q_23, .inl (cI, 4, .inl (upd (upd (upd (upd (fun _ => 0) 0 (ca i)) 1 (gStill Q nw ca i)) 2 (gOn Q nw i)) 3 (if nI day < bo i then 1 else 0)))), (q_2, .inl (cI, 3, .inl upo)), (q_1, .inl (cI, 5, .inl ofB))] ++ ts) ++ gG a cI cZ Q T nb nq nw nr day nbt nqt nwt dayt co ca bo) ++ sPl nb nq nr nw ad (sEn cI (Q 1) (Q 2) (Q 3) (Q 4) (Q 5) (Q 6) (Q 7) (Q 8) (Q 9) (Q 11) (Q 12) (Q 13) ca sv rl))) := hD
            refine lv_astore (lv' := [(6, .ref q_23), (5, .int (nI i)), (4, .ref q_2), (3, .ref q_1), (2, .int acc), (0, .ref si), (1, .ref (a 0))]) hx hb dX6_isSame_651 hl (by decide) rfl (fun ls hl => ?_)
            refine lv_iconst (v := 0) hx hb dX6_isSame_653 (by decide) ?_
            refine lv_istore (lv' := [(7, .int 0), (6, .ref q_23), (5, .int (nI i)), (4, .ref q_2), (3, .ref q_1), (2, .int acc), (0, .ref si), (1, .ref (a 0))]) hx hb dX6_isSame_654 hl (by decide) rfl (fun ls hl => ?_)
            refine gw_loop (fun (zz : Nat × Nat) H locs ls => match zz with | (kv, v) => va_P D vwCl (sW si fa ob op oc ow cI cW cO (Q 0) nb nq nr (sRf ad 0 nb) (sRf ad 1 nq) (sRf ad 2 nr) (sRf ad 3 nw) (nI nw) (nI day) co ++ ((([(q_23, .inl (cI, 4, .inl (upd (upd (upd (upd (fun _ => 0) 0 (ca i)) 1 (gStill Q nw ca i)) 2 (gOn Q nw i)) 3 (if nI day < bo i then 1 else 0)))), (q_2, .inl (cI, 3, .inl upo)), (q_1, .inl (cI, 5, .inl ofB))] ++ ts) ++ gG a cI cZ Q T nb nq nw nr day nbt nqt nwt dayt co ca bo) ++ sPl nb nq nr nw ad (sEn cI (Q 1) (Q 2) (Q 3) (Q 4) (Q 5) (Q 6) (Q 7) (Q 8) (Q 9) (Q 11) (Q 12) (Q 13) ca sv rl))) H ∧ va_D A (sW si fa ob op oc ow cI cW cO (Q 0) nb nq nr (sRf ad 0 nb) (sRf ad 1 nq) (sRf ad 2 nr) (sRf ad 3 nw) (nI nw) (nI day) co ++ ((([(q_23, .inl (cI, 4, .inl (upd (upd (upd (upd (fun _ => 0) 0 (ca i)) 1 (gStill Q nw ca i)) 2 (gOn Q nw i)) 3 (if nI day < bo i then 1 else 0)))), (q_2, .inl (cI, 3, .inl upo)), (q_1, .inl (cI, 5, .inl ofB))] ++ ts) ++ gG a cI cZ Q T nb nq nw nr day nbt nqt nwt dayt co ca bo) ++ sPl nb nq nr nw ad (sEn cI (Q 1) (Q 2) (Q 3) (Q 4) (Q 5) (Q 6) (Q 7) (Q 8) (Q 9) (Q 11) (Q 12) (Q 13) ca sv rl))) ∧ va_S A s.heap H locs ∧ lv_has ls 11 [(7, .int (nI v)), (6, .ref q_23), (5, .int (nI i)), (4, .ref q_2), (3, .ref q_1), (2, .int acc), (0, .ref si), (1, .ref (a 0))] ∧ (v + kv = 4)) (fun (zz : Nat × Nat) => match zz with | (kv, v) => kv) (4, 0) ⟨hP, hD, hS, lv_sub hl [0, 1, 2, 3, 4, 5, 6, 7] rfl, (by omega)⟩ ?_
            rintro ⟨kv, v⟩ ih H locs ls ⟨hP, hD, hS, hl, hvv⟩
            have hP : va_P D vwCl (sW si fa ob op oc ow cI cW cO (Q 0) nb nq nr (sRf ad 0 nb) (sRf ad 1 nq) (sRf ad 2 nr) (sRf ad 3 nw) (nI nw) (nI day) co ++ ((([(q_23, .inl (cI, 4, .inl (upd (upd (upd (upd (fun _ => 0) 0 (ca i)) 1 (gStill Q nw ca i)) 2 (gOn Q nw i)) 3 (if nI day < bo i then 1 else 0)))), (q_2, .inl (cI, 3, .inl upo)), (q_1, .inl (cI, 5, .inl ofB))] ++ ts) ++ gG a cI cZ Q T nb nq nw nr day nbt nqt nwt dayt co ca bo) ++ sPl nb nq nr nw ad (sEn cI (Q 1) (Q 2) (Q 3) (Q 4) (Q 5) (Q 6) (Q 7) (Q 8) (Q 9) (Q 11) (Q 12) (Q 13) ca sv rl))) H := hP
            have hD : va_D A (sW si fa ob op oc ow cI cW cO (Q 0) nb nq nr (sRf ad 0 nb) (sRf ad 1 nq) (sRf ad 2 nr) (sRf ad 3 nw) (nI nw) (nI day) co ++ ((([(q_23, .inl (cI, 4, .inl (upd (upd (upd (upd (fun _ => 0) 0 (ca i)) 1 (gStill Q nw ca i)) 2 (gOn Q nw i)) 3 (if nI day < bo i then 1 else 0)))), (q_2, .inl (cI, 3, .inl upo)), (q_1, .inl (cI, 5, .inl ofB))] ++ ts) ++ gG a cI cZ Q T nb nq nw nr day nbt nqt nwt dayt co ca bo) ++ sPl nb nq nr nw ad (sEn cI (Q 1) (Q 2) (Q 3) (Q 4) (Q 5) (Q 6) (Q 7) (Q 8) (Q 9) (Q 11) (Q 12) (Q 13) ca sv rl))) := hD
            have hl : lv_has ls 11 [(7, .int (nI v)), (6, .ref q_23), (5, .int (nI i)), (4, .ref q_2), (3, .ref q_1), (2, .int acc), (0, .ref si), (1, .ref (a 0))] := hl
            have hvv : v + kv = 4 := hvv
            have ih656 := ih
            refine lv_iload hx hb dX6_isSame_656 (lv_at hl 0 rfl) ?_
            refine lv_iconst (v := 4) hx hb dX6_isSame_658 (by decide) ?_
            refine lv_icmp_ge (tgt := 686) hx hb dX6_isSame_659 (by decide) (fun cv => ?_) (fun cv => ?_)
            · skip
              refine lv_iinc (v := nI (i + 1)) (lv' := [(5, .int (nI (i + 1))), (7, .int (nI v)), (6, .ref q_23), (4, .ref q_2), (3, .ref q_1), (2, .int acc), (0, .ref si), (1, .ref (a 0))]) hx hb dX6_isSame_686 hl (k := 2) rfl (nI_add i 1) (by decide) rfl (fun ls hl => ?_)
              refine lv_goto (tgt := 589) hx hb dX6_isSame_689 (by decide) ?_
              obtain ⟨hP, hD⟩ := gPD_drop (x := (q_23, .inl (cI, 4, .inl (upd (upd (upd (upd (fun _ => 0) 0 (ca i)) 1 (gStill Q nw ca i)) 2 (gOn Q nw i)) 3 (if nI day < bo i then 1 else 0))))) (R := (([(q_2, .inl (cI, 3, .inl upo)), (q_1, .inl (cI, 5, .inl ofB))] ++ ts) ++ gG a cI cZ Q T nb nq nw nr day nbt nqt nwt dayt co ca bo)) hP hD
              refine W.widen (k := 73 + (i + 1)) (n := 428 + 4 * (i + 1)) (by omega) (by omega) ?_
              exact ih589 (k, i + 1) H locs ls (by dsimp only; omega) ⟨hP, hD, hS, lv_sub hl [0, 3, 4, 5, 6, 7] rfl, (by omega)⟩
            · skip
              have hv : v < 4 := gw_lt (n := 4) (by omega) (by omega) cv
              obtain ⟨kv, rfl⟩ : ∃ k2, kv = k2 + 1 := ⟨kv - 1, by omega⟩
              refine lv_aload_n hx hb dX6_isSame_662 rfl (lv_at hl 7 rfl) ?_
              refine lv_iload hx hb dX6_isSame_663 (lv_at hl 2 rfl) ?_
              refine lv_iload hx hb dX6_isSame_665 (lv_at hl 0 rfl) ?_
              refine va_calli (va_runV (As := [.int (nI i), .int (nI v)]) (rest := []) ⟨hx, hb, hml, hown, hts⟩ (met_W_raft l D cI cZ cW cO a Q T nb nq nw nr day nbt nqt nwt dayt co ca bo i v hi (by first | assumption | omega) hv (by first | assumption | omega)) (cwV 2 hts gX6_isSame_X5_raft rfl rfl rfl (by decide +kernel) ⟨Nat.le_of_ble_eq_true rfl, Nat.le_of_ble_eq_true rfl⟩) (gv_pvr hK (gP_G hP) 5 rfl rfl rfl) rfl rfl hl.1 rfl (lv_room (Nat.le_of_ble_eq_true rfl)) dX6_isSame_667 ⟨(by show _ ≤ 80; omega), (by show _ ≤ 500; omega)⟩) hS (fun _ _ z => z.elim) (fun _ z => z.elim) (fun r_29 _ t H1 locs ht hvm hw hB hz1 hk1 hS => ?_)
              have hP := gw_ro hP hk1
              generalize H1 = H at hP hS ⊢
              subst hw
              refine lv_aload hx hb dX6_isSame_670 (lv_at hl 1 rfl) ?_
              refine lv_iload hx hb dX6_isSame_672 (lv_at hl 0 rfl) ?_
              refine gw_iald hx hb hK hP 6 0 (k := v) rfl rfl hv (by decide) dX6_isSame_674 ?_
              refine lv_icmp_eq (tgt := 680) hx hb dX6_isSame_675 (by decide) (fun c_30 => ?_) (fun c_30 => (by first | exact absurd c_30 (sn_4 v hv).symm | exact absurd (sn_4 v hv).symm c_30))
              refine lv_iinc (v := nI (v + 1)) (lv' := [(7, .int (nI (v + 1))), (6, .ref q_23), (5, .int (nI i)), (4, .ref q_2), (3, .ref q_1), (2, .int acc), (0, .ref si), (1, .ref (a 0))]) hx hb dX6_isSame_680 hl (k := 0) rfl (nI_add v 1) (by decide) rfl (fun ls hl => ?_)
              refine lv_goto (tgt := 656) hx hb dX6_isSame_683 (by decide) ?_
              exact ih656 (kv, v + 1) H locs ls (by dsimp only; omega) ⟨hP, hD, hS, lv_sub hl [0, 1, 2, 3, 4, 5, 6, 7] rfl, (by omega)⟩
      · skip
        have hi : i < nb := gw_lt (by omega) (by omega) c
        obtain ⟨k, rfl⟩ : ∃ k2, k = k2 + 1 := ⟨k - 1, by omega⟩
        refine lv_iconst (v := 0) hx hb dX6_isSame_424 (by decide) ?_
        refine lv_istore (lv' := [(6, .int 0), (5, .int (nI i)), (4, .ref q_2), (3, .ref q_1), (2, .int acc), (0, .ref si), (1, .ref (a 0))]) hx hb dX6_isSame_425 hl (by decide) rfl (fun ls hl => ?_)
        refine lv_aload_n hx hb dX6_isSame_427 rfl (lv_at hl 5 rfl) ?_
        refine va_get (D := D) (ci := 6) (v := .ref op) (C := RX6) (T := TX6) (N := 8) hx hb hts wc_X6_isSame_X6 hown hK hP 0 rfl rfl 2 (by decide) (hts _ wd_X6_isSame_3) (fun _ h9 => h9) rfl dX6_isSame_428 ?_
        refine lv_astore (lv' := [(7, .ref op), (6, .int 0), (5, .int (nI i)), (4, .ref q_2), (3, .ref q_1), (2, .int acc), (0, .ref si), (1, .ref (a 0))]) hx hb dX6_isSame_431 hl (by decide) rfl (fun ls hl => ?_)
        refine lv_aload hx hb dX6_isSame_433 (lv_at hl 0 rfl) ?_
        refine va_alen (v := nI nq) hx hb hK hP 3 3 rfl rfl rfl dX6_isSame_435 ?_
        refine lv_istore (lv' := [(8, .int (nI nq)), (7, .ref op), (6, .int 0), (5, .int (nI i)), (4, .ref q_2), (3, .ref q_1), (2, .int acc), (0, .ref si), (1, .ref (a 0))]) hx hb dX6_isSame_436 hl (by decide) rfl (fun ls hl => ?_)
        refine lv_iconst (v := 0) hx hb dX6_isSame_438 (by decide) ?_
        refine lv_istore (lv' := [(9, .int 0), (8, .int (nI nq)), (7, .ref op), (6, .int 0), (5, .int (nI i)), (4, .ref q_2), (3, .ref q_1), (2, .int acc), (0, .ref si), (1, .ref (a 0))]) hx hb dX6_isSame_439 hl (by decide) rfl (fun ls hl => ?_)
        refine gw_loop (fun (zz : Nat × Nat × Int32) H locs ls => match zz with | (kh, iy, ac) => va_P D vwCl (sW si fa ob op oc ow cI cW cO (Q 0) nb nq nr (sRf ad 0 nb) (sRf ad 1 nq) (sRf ad 2 nr) (sRf ad 3 nw) (nI nw) (nI day) co ++ ((([(q_2, .inl (cI, 3, .inl upo)), (q_1, .inl (cI, 5, .inl ofB))] ++ ts) ++ gG a cI cZ Q T nb nq nw nr day nbt nqt nwt dayt co ca bo) ++ sPl nb nq nr nw ad (sEn cI (Q 1) (Q 2) (Q 3) (Q 4) (Q 5) (Q 6) (Q 7) (Q 8) (Q 9) (Q 11) (Q 12) (Q 13) ca sv rl))) H ∧ va_D A (sW si fa ob op oc ow cI cW cO (Q 0) nb nq nr (sRf ad 0 nb) (sRf ad 1 nq) (sRf ad 2 nr) (sRf ad 3 nw) (nI nw) (nI day) co ++ ((([(q_2, .inl (cI, 3, .inl upo)), (q_1, .inl (cI, 5, .inl ofB))] ++ ts) ++ gG a cI cZ Q T nb nq nw nr day nbt nqt nwt dayt co ca bo) ++ sPl nb nq nr nw ad (sEn cI (Q 1) (Q 2) (Q 3) (Q 4) (Q 5) (Q 6) (Q 7) (Q 8) (Q 9) (Q 11) (Q 12) (Q 13) ca sv rl))) ∧ va_S A s.heap H locs ∧ lv_has ls 11 [(9, .int (nI iy)), (8, .int (nI nq)), (7, .ref op), (6, .int ac), (5, .int (nI i)), (4, .ref q_2), (3, .ref q_1), (2, .int acc), (0, .ref si), (1, .ref (a 0))] ∧ (iy + kh = nq) ∧ (gS (fun j => if Q 6 j = nI i then 1 else 0) kh iy ac = gS (fun j => if Q 6 j = nI i then 1 else 0) nq 0 0)) (fun (zz : Nat × Nat × Int32) => match zz with | (kh, iy, ac) => kh) (nq, 0, 0) ⟨hP, hD, hS, lv_sub hl [0, 1, 2, 3, 4, 5, 6, 7, 8, 9] rfl, (by omega), rfl⟩ ?_
        rintro ⟨kh, iy, ac⟩ ih H locs ls ⟨hP, hD, hS, hl, hiy, hFh⟩
        have hP : va_P D vwCl (sW si fa ob op oc ow cI cW cO (Q 0) nb nq nr (sRf ad 0 nb) (sRf ad 1 nq) (sRf ad 2 nr) (sRf ad 3 nw) (nI nw) (nI day) co ++ ((([(q_2, .inl (cI, 3, .inl upo)), (q_1, .inl (cI, 5, .inl ofB))] ++ ts) ++ gG a cI cZ Q T nb nq nw nr day nbt nqt nwt dayt co ca bo) ++ sPl nb nq nr nw ad (sEn cI (Q 1) (Q 2) (Q 3) (Q 4) (Q 5) (Q 6) (Q 7) (Q 8) (Q 9) (Q 11) (Q 12) (Q 13) ca sv rl))) H := hP
        have hD : va_D A (sW si fa ob op oc ow cI cW cO (Q 0) nb nq nr (sRf ad 0 nb) (sRf ad 1 nq) (sRf ad 2 nr) (sRf ad 3 nw) (nI nw) (nI day) co ++ ((([(q_2, .inl (cI, 3, .inl upo)), (q_1, .inl (cI, 5, .inl ofB))] ++ ts) ++ gG a cI cZ Q T nb nq nw nr day nbt nqt nwt dayt co ca bo) ++ sPl nb nq nr nw ad (sEn cI (Q 1) (Q 2) (Q 3) (Q 4) (Q 5) (Q 6) (Q 7) (Q 8) (Q 9) (Q 11) (Q 12) (Q 13) ca sv rl))) := hD
        have hl : lv_has ls 11 [(9, .int (nI iy)), (8, .int (nI nq)), (7, .ref op), (6, .int ac), (5, .int (nI i)), (4, .ref q_2), (3, .ref q_1), (2, .int acc), (0, .ref si), (1, .ref (a 0))] := hl
        have hiy : iy + kh = nq := hiy
        have hFh : gS (fun j => if Q 6 j = nI i then 1 else 0) kh iy ac = gS (fun j => if Q 6 j = nI i then 1 else 0) nq 0 0 := hFh
        have ih441 := ih
        refine lv_iload hx hb dX6_isSame_441 (lv_at hl 0 rfl) ?_
        refine lv_iload hx hb dX6_isSame_443 (lv_at hl 1 rfl) ?_
        refine lv_icmp_ge (tgt := 480) hx hb dX6_isSame_445 (by decide) (fun ch => ?_) (fun ch => ?_)
        · skip
          have hk0 : kh = 0 := by have := gw_ge (by omega) (by omega) ch; omega
          subst hk0
          have hFh : ac = gS (fun j => if Q 6 j = nI i then 1 else 0) nq 0 0 := hFh
          subst hFh
          refine lv_bipush (v := 6) hx hb dX6_isSame_480 (by decide) ?_
          refine gw_newI hx hb (hts _ wd_X6_isSame_0) hK 0 rfl hP hD hS hA (n := 6) (N' := 6) (by decide) (by decide) (by decide) (by show _ ≤ 80; omega) (by show _ ≤ 500; omega) dX6_isSame_482 (fun q_32 H hP hD hS => ?_)
          obtain ⟨hP, hD⟩ := gPD_new hP hD
          have hP : va_P D vwCl (sW si fa ob op oc ow cI cW cO (Q 0) nb nq nr (sRf ad 0 nb) (sRf ad 1 nq) (sRf ad 2 nr) (sRf ad 3 nw) (nI nw) (nI day) co ++ ((([(q_32, .inl (cI, 6, .inl (fun _ => 0))), (q_2, .inl (cI, 3, .inl upo)), (q_1, .inl (cI, 5, .inl ofB))] ++ ts) ++ gG a cI cZ Q T nb nq nw nr day nbt nqt nwt dayt co ca bo) ++ sPl nb nq nr nw ad (sEn cI (Q 1) (Q 2) (Q 3) (Q 4) (Q 5) (Q 6) (Q 7) (Q 8) (Q 9) (Q 11) (Q 12) (Q 13) ca sv rl))) _ := hP
          have hD : va_D A (sW si fa ob op oc ow cI cW cO (Q 0) nb nq nr (sRf ad 0 nb) (sRf ad 1 nq) (sRf ad 2 nr) (sRf ad 3 nw) (nI nw) (nI day) co ++ ((([(q_32, .inl (cI, 6, .inl (fun _ => 0))), (q_2, .inl (cI, 3, .inl upo)), (q_1, .inl (cI, 5, .inl ofB))] ++ ts) ++ gG a cI cZ Q T nb nq nw nr day nbt nqt nwt dayt co ca bo) ++ sPl nb nq nr nw ad (sEn cI (Q 1) (Q 2) (Q 3) (Q 4) (Q 5) (Q 6) (Q 7) (Q 8) (Q 9) (Q 11) (Q 12) (Q 13) ca sv rl))) := hD
          refine W.widen (k := 69 + i) (n := 404 + 6 * i) (by omega) (by omega) ?_
          refine lv_dup hx hb dX6_isSame_484 rfl ?_
          refine lv_iconst (v := 0) hx hb dX6_isSame_485 (by decide) ?_
          refine lv_aload_n hx hb dX6_isSame_486 rfl (lv_at hl 8 rfl) ?_
          refine va_get (D := D) (ci := 6) (v := .ref ob) (C := RX6) (T := TX6) (N := 8) hx hb hts wc_X6_isSame_X6 hown hK hP 0 rfl rfl 1 (by decide) (hts _ wd_X6_isSame_4) (fun _ h9 => h9) rfl dX6_isSame_487 ?_
          refine lv_iload hx hb dX6_isSame_490 (lv_at hl 4 rfl) ?_
          refine gw_aldA hx hb hK hP 2 3 (k := i) (v := ad (0, i)) rfl rfl (sRf_at hi) hi (by omega) dX6_isSame_492 ?_
          refine lv_iconst (v := 0) hx hb dX6_isSame_493 (by decide) ?_
          obtain ⟨i_33, hi_33, si_33⟩ := sAt0 (k := i) hP hi
          refine gw_top (y := nI 0) rfl ?_
          refine gw_iald hx hb hK hP i_33 0 (k := 0) hi_33 rfl (by first | decide | omega) (by decide) dX6_isSame_494 ?_
          refine gw_top (y := Q 1 i) rfl ?_
          refine gw_top2 (y := nI 0) rfl ?_
          refine gw_iast hx hb hK hP hD hS 6 0 (k := 0) rfl rfl (by first | decide | omega) (by decide) dX6_isSame_495 (fun H locs hP hD hS => ?_)
          have hP : va_P D vwCl (sW si fa ob op oc ow cI cW cO (Q 0) nb nq nr (sRf ad 0 nb) (sRf ad 1 nq) (sRf ad 2 nr) (sRf ad 3 nw) (nI nw) (nI day) co ++ ((([(q_32, .inl (cI, 6, .inl (upd (fun _ => 0) 0 (Q 1 i)))), (q_2, .inl (cI, 3, .inl upo)), (q_1, .inl (cI, 5, .inl ofB))] ++ ts) ++ gG a cI cZ Q T nb nq nw nr day nbt nqt nwt dayt co ca bo) ++ sPl nb nq nr nw ad (sEn cI (Q 1) (Q 2) (Q 3) (Q 4) (Q 5) (Q 6) (Q 7) (Q 8) (Q 9) (Q 11) (Q 12) (Q 13) ca sv rl))) _ := hP
          have hD : va_D A (sW si fa ob op oc ow cI cW cO (Q 0) nb nq nr (sRf ad 0 nb) (sRf ad 1 nq) (sRf ad 2 nr) (sRf ad 3 nw) (nI nw) (nI day) co ++ ((([(q_32, .inl (cI, 6, .inl (upd (fun _ => 0) 0 (Q 1 i)))), (q_2, .inl (cI, 3, .inl upo)), (q_1, .inl (cI, 5, .inl ofB))] ++ ts) ++ gG a cI cZ Q T nb nq nw nr day nbt nqt nwt dayt co ca bo) ++ sPl nb nq nr nw ad (sEn cI (Q 1) (Q 2) (Q 3) (Q 4) (Q 5) (Q 6) (Q 7) (Q 8) (Q 9) (Q 11) (Q 12) (Q 13) ca sv rl))) := hD
          refine lv_dup hx hb dX6_isSame_496 rfl ?_
          refine lv_iconst (v := 1) hx hb dX6_isSame_497 (by decide) ?_
          refine lv_aload_n hx hb dX6_isSame_498 rfl (lv_at hl 8 rfl) ?_
          refine va_get (D := D) (ci := 6) (v := .ref ob) (C := RX6) (T := TX6) (N := 8) hx hb hts wc_X6_isSame_X6 hown hK hP 0 rfl rfl 1 (by decide) (hts _ wd_X6_isSame_4) (fun _ h9 => h9) rfl dX6_isSame_499 ?_
          refine lv_iload hx hb dX6_isSame_502 (lv_at hl 4 rfl) ?_
          refine gw_aldA hx hb hK hP 2 3 (k := i) (v := ad (0, i)) rfl rfl (sRf_at (by first | assumption | omega)) (by first | assumption | omega) (by omega) dX6_isSame_504 ?_
          refine lv_iconst (v := 1) hx hb dX6_isSame_505 (by decide) ?_
          obtain ⟨i_34, hi_34, si_34⟩ := sAt0 (k := i) hP (by first | assumption | omega)
          refine gw_top (y := nI 1) rfl ?_
          refine gw_iald hx hb hK hP i_34 0 (k := 1) hi_34 rfl (by first | decide | omega) (by decide) dX6_isSame_506 ?_
          refine gw_top (y := Q 2 i) rfl ?_
          refine gw_top2 (y := nI 1) rfl ?_
          refine gw_iast hx hb hK hP hD hS 6 0 (k := 1) rfl rfl (by first | decide | omega) (by decide) dX6_isSame_507 (fun H locs hP hD hS => ?_)
          have hP : va_P D vwCl (sW si fa ob op oc ow cI cW cO (Q 0) nb nq nr (sRf ad 0 nb) (sRf ad 1 nq) (sRf ad 2 nr) (sRf ad 3 nw) (nI nw) (nI day) co ++ ((([(q_32, .inl (cI, 6, .inl (upd (upd (fun _ => 0) 0 (Q 1 i)) 1 (Q 2 i)))), (q_2, .inl (cI, 3, .inl upo)), (q_1, .inl (cI, 5, .inl ofB))] ++ ts) ++ gG a cI cZ Q T nb nq nw nr day nbt nqt nwt dayt co ca bo) ++ sPl nb nq nr nw ad (sEn cI (Q 1) (Q 2) (Q 3) (Q 4) (Q 5) (Q 6) (Q 7) (Q 8) (Q 9) (Q 11) (Q 12) (Q 13) ca sv rl))) _ := hP
          have hD : va_D A (sW si fa ob op oc ow cI cW cO (Q 0) nb nq nr (sRf ad 0 nb) (sRf ad 1 nq) (sRf ad 2 nr) (sRf ad 3 nw) (nI nw) (nI day) co ++ ((([(q_32, .inl (cI, 6, .inl (upd (upd (fun _ => 0) 0 (Q 1 i)) 1 (Q 2 i)))), (q_2, .inl (cI, 3, .inl upo)), (q_1, .inl (cI, 5, .inl ofB))] ++ ts) ++ gG a cI cZ Q T nb nq nw nr day nbt nqt nwt dayt co ca bo) ++ sPl nb nq nr nw ad (sEn cI (Q 1) (Q 2) (Q 3) (Q 4) (Q 5) (Q 6) (Q 7) (Q 8) (Q 9) (Q 11) (Q 12) (Q 13) ca sv rl))) := hD
          refine lv_dup hx hb dX6_isSame_508 rfl ?_
          refine lv_iconst (v := 2) hx hb dX6_isSame_509 (by decide) ?_
          refine lv_aload_n hx hb dX6_isSame_510 rfl (lv_at hl 8 rfl) ?_
          refine va_get (D := D) (ci := 6) (v := .ref ob) (C := RX6) (T := TX6) (N := 8) hx hb hts wc_X6_isSame_X6 hown hK hP 0 rfl rfl 1 (by decide) (hts _ wd_X6_isSame_4) (fun _ h9 => h9) rfl dX6_isSame_511 ?_
          refine lv_iload hx hb dX6_isSame_514 (lv_at hl 4 rfl) ?_
          refine gw_aldA hx hb hK hP 2 3 (k := i) (v := ad (0, i)) rfl rfl (sRf_at (by first | assumption | omega)) (by first | assumption | omega) (by omega) dX6_isSame_516 ?_
          refine lv_iconst (v := 2) hx hb dX6_isSame_517 (by decide) ?_
          obtain ⟨i_35, hi_35, si_35⟩ := sAt0 (k := i) hP (by first | assumption | omega)
          refine gw_top (y := nI 2) rfl ?_
          refine gw_iald hx hb hK hP i_35 0 (k := 2) hi_35 rfl (by first | decide | omega) (by decide) dX6_isSame_518 ?_
          refine gw_top (y := Q 3 i) rfl ?_
          refine gw_top2 (y := nI 2) rfl ?_
          refine gw_iast hx hb hK hP hD hS 6 0 (k := 2) rfl rfl (by first | decide | omega) (by decide) dX6_isSame_519 (fun H locs hP hD hS => ?_)
          have hP : va_P D vwCl (sW si fa ob op oc ow cI cW cO (Q 0) nb nq nr (sRf ad 0 nb) (sRf ad 1 nq) (sRf ad 2 nr) (sRf ad 3 nw) (nI nw) (nI day) co ++ ((([(q_32, .inl (cI, 6, .inl (upd (upd (upd (fun _ => 0) 0 (Q 1 i)) 1 (Q 2 i)) 2 (Q 3 i)))), (q_2, .inl (cI, 3, .inl upo)), (q_1, .inl (cI, 5, .inl ofB))] ++ ts) ++ gG a cI cZ Q T nb nq nw nr day nbt nqt nwt dayt co ca bo) ++ sPl nb nq nr nw ad (sEn cI (Q 1) (Q 2) (Q 3) (Q 4) (Q 5) (Q 6) (Q 7) (Q 8) (Q 9) (Q 11) (Q 12) (Q 13) ca sv rl))) _ := hP
          have hD : va_D A (sW si fa ob op oc ow cI cW cO (Q 0) nb nq nr (sRf ad 0 nb) (sRf ad 1 nq) (sRf ad 2 nr) (sRf ad 3 nw) (nI nw) (nI day) co ++ ((([(q_32, .inl (cI, 6, .inl (upd (upd (upd (fun _ => 0) 0 (Q 1 i)) 1 (Q 2 i)) 2 (Q 3 i)))), (q_2, .inl (cI, 3, .inl upo)), (q_1, .inl (cI, 5, .inl ofB))] ++ ts) ++ gG a cI cZ Q T nb nq nw nr day nbt nqt nwt dayt co ca bo) ++ sPl nb nq nr nw ad (sEn cI (Q 1) (Q 2) (Q 3) (Q 4) (Q 5) (Q 6) (Q 7) (Q 8) (Q 9) (Q 11) (Q 12) (Q 13) ca sv rl))) := hD
          refine lv_dup hx hb dX6_isSame_520 rfl ?_
          refine lv_iconst (v := 3) hx hb dX6_isSame_521 (by decide) ?_
          refine lv_iload hx hb dX6_isSame_522 (lv_at hl 3 rfl) ?_
          refine gw_top2 (y := nI 3) rfl ?_
          refine gw_iast hx hb hK hP hD hS 6 0 (k := 3) rfl rfl (by first | decide | omega) (by decide) dX6_isSame_524 (fun H locs hP hD hS => ?_)
          have hP : va_P D vwCl (sW si fa ob op oc ow cI cW cO (Q 0) nb nq nr (sRf ad 0 nb) (sRf ad 1 nq) (sRf ad 2 nr) (sRf ad 3 nw) (nI nw) (nI day) co ++ ((([(q_32, .inl (cI, 6, .inl (upd (upd (upd (upd (fun _ => 0) 0 (Q 1 i)) 1 (Q 2 i)) 2 (Q 3 i)) 3 (gS (fun j => if Q 6 j = nI i then 1 else 0) nq 0 0)))), (q_2, .inl (cI, 3, .inl upo)), (q_1, .inl (cI, 5, .inl ofB))] ++ ts) ++ gG a cI cZ Q T nb nq nw nr day nbt nqt nwt dayt co ca bo) ++ sPl nb nq nr nw ad (sEn cI (Q 1) (Q 2) (Q 3) (Q 4) (Q 5) (Q 6) (Q 7) (Q 8) (Q 9) (Q 11) (Q 12) (Q 13) ca sv rl))) _ := hP
          have hD : va_D A (sW si fa ob op oc ow cI cW cO (Q 0) nb nq nr (sRf ad 0 nb) (sRf ad 1 nq) (sRf ad 2 nr) (sRf ad 3 nw) (nI nw) (nI day) co ++ ((([(q_32, .inl (cI, 6, .inl (upd (upd (upd (upd (fun _ => 0) 0 (Q 1 i)) 1 (Q 2 i)) 2 (Q 3 i)) 3 (gS (fun j => if Q 6 j = nI i then 1 else 0) nq 0 0)))), (q_2, .inl (cI, 3, .inl upo)), (q_1, .inl (cI, 5, .inl ofB))] ++ ts) ++ gG a cI cZ Q T nb nq nw nr day nbt nqt nwt dayt co ca bo) ++ sPl nb nq nr nw ad (sEn cI (Q 1) (Q 2) (Q 3) (Q 4) (Q 5) (Q 6) (Q 7) (Q 8) (Q 9) (Q 11) (Q 12) (Q 13) ca sv rl))) := hD
          refine lv_dup hx hb dX6_isSame_525 rfl ?_
          refine lv_iconst (v := 4) hx hb dX6_isSame_526 (by decide) ?_
          refine lv_aload_n hx hb dX6_isSame_527 rfl (lv_at hl 8 rfl) ?_
          refine va_get (D := D) (ci := 6) (v := .ref ob) (C := RX6) (T := TX6) (N := 8) hx hb hts wc_X6_isSame_X6 hown hK hP 0 rfl rfl 1 (by decide) (hts _ wd_X6_isSame_4) (fun _ h9 => h9) rfl dX6_isSame_528 ?_
          refine lv_iload hx hb dX6_isSame_531 (lv_at hl 4 rfl) ?_
          refine gw_aldA hx hb hK hP 2 3 (k := i) (v := ad (0, i)) rfl rfl (sRf_at hi) hi (by omega) dX6_isSame_533 ?_
          refine lv_iconst (v := 3) hx hb dX6_isSame_534 (by decide) ?_
          obtain ⟨i_36, hi_36, si_36⟩ := sAt0 (k := i) hP hi
          refine gw_top (y := nI 3) rfl ?_
          refine gw_iald hx hb hK hP i_36 0 (k := 3) hi_36 rfl (by first | decide | omega) (by decide) dX6_isSame_535 ?_
          refine gw_top (y := Q 4 i) rfl ?_
          refine gw_top2 (y := nI 4) rfl ?_
          refine gw_iast hx hb hK hP hD hS 6 0 (k := 4) rfl rfl (by first | decide | omega) (by decide) dX6_isSame_536 (fun H locs hP hD hS => ?_)
          have hP : va_P D vwCl (sW si fa ob op oc ow cI cW cO (Q 0) nb nq nr (sRf ad 0 nb) (sRf ad 1 nq) (sRf ad 2 nr) (sRf ad 3 nw) (nI nw) (nI day) co ++ ((([(q_32, .inl (cI, 6, .inl (upd (upd (upd (upd (upd (fun _ => 0) 0 (Q 1 i)) 1 (Q 2 i)) 2 (Q 3 i)) 3 (gS (fun j => if Q 6 j = nI i then 1 else 0) nq 0 0)) 4 (Q 4 i)))), (q_2, .inl (cI, 3, .inl upo)), (q_1, .inl (cI, 5, .inl ofB))] ++ ts) ++ gG a cI cZ Q T nb nq nw nr day nbt nqt nwt dayt co ca bo) ++ sPl nb nq nr nw ad (sEn cI (Q 1) (Q 2) (Q 3) (Q 4) (Q 5) (Q 6) (Q 7) (Q 8) (Q 9) (Q 11) (Q 12) (Q 13) ca sv rl))) _ := hP
          have hD : va_D A (sW si fa ob op oc ow cI cW cO (Q 0) nb nq nr (sRf ad 0 nb) (sRf ad 1 nq) (sRf ad 2 nr) (sRf ad 3 nw) (nI nw) (nI day) co ++ ((([(q_32, .inl (cI, 6, .inl (upd (upd (upd (upd (upd (fun _ => 0) 0 (Q 1 i)) 1 (Q 2 i)) 2 (Q 3 i)) 3 (gS (fun j => if Q 6 j = nI i then 1 else 0) nq 0 0)) 4 (Q 4 i)))), (q_2, .inl (cI, 3, .inl upo)), (q_1, .inl (cI, 5, .inl ofB))] ++ ts) ++ gG a cI cZ Q T nb nq nw nr day nbt nqt nwt dayt co ca bo) ++ sPl nb nq nr nw ad (sEn cI (Q 1) (Q 2) (Q 3) (Q 4) (Q 5) (Q 6) (Q 7) (Q 8) (Q 9) (Q 11) (Q 12) (Q 13) ca sv rl))) := hD
          refine lv_dup hx hb dX6_isSame_537 rfl ?_
          refine lv_iconst (v := 5) hx hb dX6_isSame_538 (by decide) ?_
          refine lv_aload_n hx hb dX6_isSame_539 rfl (lv_at hl 6 rfl) ?_
          refine lv_iload hx hb dX6_isSame_540 (lv_at hl 4 rfl) ?_
          refine gw_iald hx hb hK hP 8 0 (k := i) rfl rfl (by omega) (by decide) dX6_isSame_542 ?_
          refine gw_top (y := gS (sB Q i) nw 0 0) (hFB i (by omega)) ?_
          refine gw_top2 (y := nI 5) rfl ?_
          refine gw_iast hx hb hK hP hD hS 6 0 (k := 5) rfl rfl (by first | decide | omega) (by decide) dX6_isSame_543 (fun H locs hP hD hS => ?_)
          have hP : va_P D vwCl (sW si fa ob op oc ow cI cW cO (Q 0) nb nq nr (sRf ad 0 nb) (sRf ad 1 nq) (sRf ad 2 nr) (sRf ad 3 nw) (nI nw) (nI day) co ++ ((([(q_32, .inl (cI, 6, .inl (upd (upd (upd (upd (upd (upd (fun _ => 0) 0 (Q 1 i)) 1 (Q 2 i)) 2 (Q 3 i)) 3 (gS (fun j => if Q 6 j = nI i then 1 else 0) nq 0 0)) 4 (Q 4 i)) 5 (gS (sB Q i) nw 0 0)))), (q_2, .inl (cI, 3, .inl upo)), (q_1, .inl (cI, 5, .inl ofB))] ++ ts) ++ gG a cI cZ Q T nb nq nw nr day nbt nqt nwt dayt co ca bo) ++ sPl nb nq nr nw ad (sEn cI (Q 1) (Q 2) (Q 3) (Q 4) (Q 5) (Q 6) (Q 7) (Q 8) (Q 9) (Q 11) (Q 12) (Q 13) ca sv rl))) _ := hP
          have hD : va_D A (sW si fa ob op oc ow cI cW cO (Q 0) nb nq nr (sRf ad 0 nb) (sRf ad 1 nq) (sRf ad 2 nr) (sRf ad 3 nw) (nI nw) (nI day) co ++ ((([(q_32, .inl (cI, 6, .inl (upd (upd (upd (upd (upd (upd (fun _ => 0) 0 (Q 1 i)) 1 (Q 2 i)) 2 (Q 3 i)) 3 (gS (fun j => if Q 6 j = nI i then 1 else 0) nq 0 0)) 4 (Q 4 i)) 5 (gS (sB Q i) nw 0 0)))), (q_2, .inl (cI, 3, .inl upo)), (q_1, .inl (cI, 5, .inl ofB))] ++ ts) ++ gG a cI cZ Q T nb nq nw nr day nbt nqt nwt dayt co ca bo) ++ sPl nb nq nr nw ad (sEn cI (Q 1) (Q 2) (Q 3) (Q 4) (Q 5) (Q 6) (Q 7) (Q 8) (Q 9) (Q 11) (Q 12) (Q 13) ca sv rl))) := hD
          refine lv_astore (lv' := [(7, .ref q_32), (9, .int (nI iy)), (8, .int (nI nq)), (6, .int (gS (fun j => if Q 6 j = nI i then 1 else 0) nq 0 0)), (5, .int (nI i)), (4, .ref q_2), (3, .ref q_1), (2, .int acc), (0, .ref si), (1, .ref (a 0))]) hx hb dX6_isSame_544 hl (by decide) rfl (fun ls hl => ?_)
          refine lv_iconst (v := 0) hx hb dX6_isSame_546 (by decide) ?_
          refine lv_istore (lv' := [(8, .int 0), (7, .ref q_32), (9, .int (nI iy)), (6, .int (gS (fun j => if Q 6 j = nI i then 1 else 0) nq 0 0)), (5, .int (nI i)), (4, .ref q_2), (3, .ref q_1), (2, .int acc), (0, .ref si), (1, .ref (a 0))]) hx hb dX6_isSame_547 hl (by decide) rfl (fun ls hl => ?_)
          refine gw_loop (fun (zz : Nat × Nat) H locs ls => match zz with | (kv, v) => va_P D vwCl (sW si fa ob op oc ow cI cW cO (Q 0) nb nq nr (sRf ad 0 nb) (sRf ad 1 nq) (sRf ad 2 nr) (sRf ad 3 nw) (nI nw) (nI day) co ++ ((([(q_32, .inl (cI, 6, .inl (upd (upd (upd (upd (upd (upd (fun _ => 0) 0 (Q 1 i)) 1 (Q 2 i)) 2 (Q 3 i)) 3 (gS (fun j => if Q 6 j = nI i then 1 else 0) nq 0 0)) 4 (Q 4 i)) 5 (gS (sB Q i) nw 0 0)))), (q_2, .inl (cI, 3, .inl upo)), (q_1, .inl (cI, 5, .inl ofB))] ++ ts) ++ gG a cI cZ Q T nb nq nw nr day nbt nqt nwt dayt co ca bo) ++ sPl nb nq nr nw ad (sEn cI (Q 1) (Q 2) (Q 3) (Q 4) (Q 5) (Q 6) (Q 7) (Q 8) (Q 9) (Q 11) (Q 12) (Q 13) ca sv rl))) H ∧ va_D A (sW si fa ob op oc ow cI cW cO (Q 0) nb nq nr (sRf ad 0 nb) (sRf ad 1 nq) (sRf ad 2 nr) (sRf ad 3 nw) (nI nw) (nI day) co ++ ((([(q_32, .inl (cI, 6, .inl (upd (upd (upd (upd (upd (upd (fun _ => 0) 0 (Q 1 i)) 1 (Q 2 i)) 2 (Q 3 i)) 3 (gS (fun j => if Q 6 j = nI i then 1 else 0) nq 0 0)) 4 (Q 4 i)) 5 (gS (sB Q i) nw 0 0)))), (q_2, .inl (cI, 3, .inl upo)), (q_1, .inl (cI, 5, .inl ofB))] ++ ts) ++ gG a cI cZ Q T nb nq nw nr day nbt nqt nwt dayt co ca bo) ++ sPl nb nq nr nw ad (sEn cI (Q 1) (Q 2) (Q 3) (Q 4) (Q 5) (Q 6) (Q 7) (Q 8) (Q 9) (Q 11) (Q 12) (Q 13) ca sv rl))) ∧ va_S A s.heap H locs ∧ lv_has ls 11 [(8, .int (nI v)), (7, .ref q_32), (9, .int (nI iy)), (6, .int (gS (fun j => if Q 6 j = nI i then 1 else 0) nq 0 0)), (5, .int (nI i)), (4, .ref q_2), (3, .ref q_1), (2, .int acc), (0, .ref si), (1, .ref (a 0))] ∧ (v + kv = 6)) (fun (zz : Nat × Nat) => match zz with | (kv, v) => kv) (6, 0) ⟨hP, hD, hS, lv_sub hl [0, 1, 2, 3, 4, 5, 6, 7, 8, 9] rfl, (by omega)⟩ ?_
          rintro ⟨kv, v⟩ ih H locs ls ⟨hP, hD, hS, hl, hvv⟩
          have hP : va_P D vwCl (sW si fa ob op oc ow cI cW cO (Q 0) nb nq nr (sRf ad 0 nb) (sRf ad 1 nq) (sRf ad 2 nr) (sRf ad 3 nw) (nI nw) (nI day) co ++ ((([(q_32, .inl (cI, 6, .inl (upd (upd (upd (upd (upd (upd (fun _ => 0) 0 (Q 1 i)) 1 (Q 2 i)) 2 (Q 3 i)) 3 (gS (fun j => if Q 6 j = nI i then 1 else 0) nq 0 0)) 4 (Q 4 i)) 5 (gS (sB Q i) nw 0 0)))), (q_2, .inl (cI, 3, .inl upo)), (q_1, .inl (cI, 5, .inl ofB))] ++ ts) ++ gG a cI cZ Q T nb nq nw nr day nbt nqt nwt dayt co ca bo) ++ sPl nb nq nr nw ad (sEn cI (Q 1) (Q 2) (Q 3) (Q 4) (Q 5) (Q 6) (Q 7) (Q 8) (Q 9) (Q 11) (Q 12) (Q 13) ca sv rl))) H := hP
          have hD : va_D A (sW si fa ob op oc ow cI cW cO (Q 0) nb nq nr (sRf ad 0 nb) (sRf ad 1 nq) (sRf ad 2 nr) (sRf ad 3 nw) (nI nw) (nI day) co ++ ((([(q_32, .inl (cI, 6, .inl (upd (upd (upd (upd (upd (upd (fun _ => 0) 0 (Q 1 i)) 1 (Q 2 i)) 2 (Q 3 i)) 3 (gS (fun j => if Q 6 j = nI i then 1 else 0) nq 0 0)) 4 (Q 4 i)) 5 (gS (sB Q i) nw 0 0)))), (q_2, .inl (cI, 3, .inl upo)), (q_1, .inl (cI, 5, .inl ofB))] ++ ts) ++ gG a cI cZ Q T nb nq nw nr day nbt nqt nwt dayt co ca bo) ++ sPl nb nq nr nw ad (sEn cI (Q 1) (Q 2) (Q 3) (Q 4) (Q 5) (Q 6) (Q 7) (Q 8) (Q 9) (Q 11) (Q 12) (Q 13) ca sv rl))) := hD
          have hl : lv_has ls 11 [(8, .int (nI v)), (7, .ref q_32), (9, .int (nI iy)), (6, .int (gS (fun j => if Q 6 j = nI i then 1 else 0) nq 0 0)), (5, .int (nI i)), (4, .ref q_2), (3, .ref q_1), (2, .int acc), (0, .ref si), (1, .ref (a 0))] := hl
          have hvv : v + kv = 6 := hvv
          have ih549 := ih
          refine lv_iload hx hb dX6_isSame_549 (lv_at hl 0 rfl) ?_
          refine lv_bipush (v := 6) hx hb dX6_isSame_551 (by decide) ?_
          refine lv_icmp_ge (tgt := 580) hx hb dX6_isSame_553 (by decide) (fun cv => ?_) (fun cv => ?_)
          · skip
            refine lv_iinc (v := nI (i + 1)) (lv' := [(5, .int (nI (i + 1))), (8, .int (nI v)), (7, .ref q_32), (9, .int (nI iy)), (6, .int (gS (fun j => if Q 6 j = nI i then 1 else 0) nq 0 0)), (4, .ref q_2), (3, .ref q_1), (2, .int acc), (0, .ref si), (1, .ref (a 0))]) hx hb dX6_isSame_580 hl (k := 4) rfl (nI_add i 1) (by decide) rfl (fun ls hl => ?_)
            refine lv_goto (tgt := 414) hx hb dX6_isSame_583 (by decide) ?_
            obtain ⟨hP, hD⟩ := gPD_drop (x := (q_32, .inl (cI, 6, .inl (upd (upd (upd (upd (upd (upd (fun _ => 0) 0 (Q 1 i)) 1 (Q 2 i)) 2 (Q 3 i)) 3 (gS (fun j => if Q 6 j = nI i then 1 else 0) nq 0 0)) 4 (Q 4 i)) 5 (gS (sB Q i) nw 0 0))))) (R := (([(q_2, .inl (cI, 3, .inl upo)), (q_1, .inl (cI, 5, .inl ofB))] ++ ts) ++ gG a cI cZ Q T nb nq nw nr day nbt nqt nwt dayt co ca bo)) hP hD
            refine W.widen (k := 68 + (i + 1)) (n := 398 + 6 * (i + 1)) (by omega) (by omega) ?_
            exact ih414 (k, i + 1) H locs ls (by dsimp only; omega) ⟨hP, hD, hS, lv_sub hl [0, 5, 6, 7, 8, 9] rfl, (by omega)⟩
          · skip
            have hv : v < 6 := gw_lt (n := 6) (by omega) (by omega) cv
            obtain ⟨kv, rfl⟩ : ∃ k2, kv = k2 + 1 := ⟨kv - 1, by omega⟩
            refine lv_aload_n hx hb dX6_isSame_556 rfl (lv_at hl 9 rfl) ?_
            refine lv_iload hx hb dX6_isSame_557 (lv_at hl 4 rfl) ?_
            refine lv_iload hx hb dX6_isSame_559 (lv_at hl 0 rfl) ?_
            refine va_calli (va_runV (As := [.int (nI i), .int (nI v)]) (rest := []) ⟨hx, hb, hml, hown, hts⟩ (met_W_bed l D cI cZ cW cO a Q T nb nq nw nr day nbt nqt nwt dayt co ca bo i v hi (by first | assumption | omega) hv (by first | assumption | omega) (by first | assumption | omega)) (cwV 2 hts gX6_isSame_X5_bed rfl rfl rfl (by decide +kernel) ⟨Nat.le_of_ble_eq_true rfl, Nat.le_of_ble_eq_true rfl⟩) (gv_pvr hK (gP_G hP) 5 rfl rfl rfl) rfl rfl hl.1 rfl (lv_room (Nat.le_of_ble_eq_true rfl)) dX6_isSame_561 ⟨(by show _ ≤ 80; omega), (by show _ ≤ 500; omega)⟩) hS (fun _ _ z => z.elim) (fun _ z => z.elim) (fun r_38 _ t H1 locs ht hvm hw hB hz1 hk1 hS => ?_)
            have hP := gw_ro hP hk1
            generalize H1 = H at hP hS ⊢
            subst hw
            refine lv_aload hx hb dX6_isSame_564 (lv_at hl 1 rfl) ?_
            refine lv_iload hx hb dX6_isSame_566 (lv_at hl 0 rfl) ?_
            refine gw_iald hx hb hK hP 6 0 (k := v) rfl rfl hv (by decide) dX6_isSame_568 ?_
            refine lv_icmp_eq (tgt := 574) hx hb dX6_isSame_569 (by decide) (fun c_39 => ?_) (fun c_39 => (by first | exact absurd c_39 (sn_6 v hv).symm | exact absurd (sn_6 v hv).symm c_39))
            refine lv_iinc (v := nI (v + 1)) (lv' := [(8, .int (nI (v + 1))), (7, .ref q_32), (9, .int (nI iy)), (6, .int (gS (fun j => if Q 6 j = nI i then 1 else 0) nq 0 0)), (5, .int (nI i)), (4, .ref q_2), (3, .ref q_1), (2, .int acc), (0, .ref si), (1, .ref (a 0))]) hx hb dX6_isSame_574 hl (k := 0) rfl (nI_add v 1) (by decide) rfl (fun ls hl => ?_)
            refine lv_goto (tgt := 549) hx hb dX6_isSame_577 (by decide) ?_
            exact ih549 (kv, v + 1) H locs ls (by dsimp only; omega) ⟨hP, hD, hS, lv_sub hl [0, 1, 2, 3, 4, 5, 6, 7, 8, 9] rfl, (by omega)⟩
        · skip
          have hih2 : iy < nq := gw_lt (by omega) (by omega) ch
          obtain ⟨kh, rfl⟩ : ∃ k2, kh = k2 + 1 := ⟨kh - 1, by omega⟩
          refine lv_aload hx hb dX6_isSame_448 (lv_at hl 2 rfl) ?_
          refine lv_iload hx hb dX6_isSame_450 (lv_at hl 0 rfl) ?_
          refine gw_aldA hx hb hK hP 3 3 (k := iy) (v := ad (1, iy)) rfl rfl (sRf_at hih2) hih2 (by omega) dX6_isSame_452 ?_
          refine lv_astore (lv' := [(10, .ref (ad (1, iy))), (9, .int (nI iy)), (8, .int (nI nq)), (7, .ref op), (6, .int ac), (5, .int (nI i)), (4, .ref q_2), (3, .ref q_1), (2, .int acc), (0, .ref si), (1, .ref (a 0))]) hx hb dX6_isSame_453 hl (by decide) rfl (fun ls hl => ?_)
          refine lv_iload hx hb dX6_isSame_455 (lv_at hl 4 rfl) ?_
          refine lv_aload hx hb dX6_isSame_457 (lv_at hl 0 rfl) ?_
          refine lv_iconst (v := 1) hx hb dX6_isSame_459 (by decide) ?_
          obtain ⟨i_40, hi_40, si_40⟩ := sAt1 (k := iy) hP hih2
          refine gw_top (y := nI 1) rfl ?_
          refine gw_iald hx hb hK hP i_40 0 (k := 1) hi_40 rfl (by first | decide | omega) (by decide) dX6_isSame_460 ?_
          refine gw_top (y := Q 6 iy) rfl ?_
          refine lv_iload hx hb dX6_isSame_461 (lv_at hl 5 rfl) ?_
          refine lv_icmp_ne (tgt := 470) hx hb dX6_isSame_463 (by decide) (fun h6 => ?_) (fun h6 => ?_)
          · skip
            refine lv_iconst (v := 0) hx hb dX6_isSame_470 (by decide) ?_
            refine lv_iadd hx hb dX6_isSame_471 ?_
            refine gw_top (y := ac + (if Q 6 iy = nI i then 1 else 0)) (by first | rw [if_pos h6] | rw [if_neg h6]) ?_
            refine lv_istore (lv' := [(6, .int (ac + (if Q 6 iy = nI i then 1 else 0))), (10, .ref (ad (1, iy))), (9, .int (nI iy)), (8, .int (nI nq)), (7, .ref op), (5, .int (nI i)), (4, .ref q_2), (3, .ref q_1), (2, .int acc), (0, .ref si), (1, .ref (a 0))]) hx hb dX6_isSame_472 hl (by decide) rfl (fun ls hl => ?_)
            refine lv_iinc (v := nI (iy + 1)) (lv' := [(9, .int (nI (iy + 1))), (6, .int (ac + (if Q 6 iy = nI i then 1 else 0))), (10, .ref (ad (1, iy))), (8, .int (nI nq)), (7, .ref op), (5, .int (nI i)), (4, .ref q_2), (3, .ref q_1), (2, .int acc), (0, .ref si), (1, .ref (a 0))]) hx hb dX6_isSame_474 hl (k := 2) rfl (nI_add iy 1) (by decide) rfl (fun ls hl => ?_)
            refine lv_goto (tgt := 441) hx hb dX6_isSame_477 (by decide) ?_
            exact ih441 (kh, iy + 1, ac + (if Q 6 iy = nI i then 1 else 0)) H locs ls (by dsimp only; omega) ⟨hP, hD, hS, lv_sub hl [0, 3, 4, 1, 5, 6, 7, 8, 9, 10] rfl, (by omega), hFh⟩
          · skip
            refine lv_iconst (v := 1) hx hb dX6_isSame_466 (by decide) ?_
            refine lv_goto (tgt := 471) hx hb dX6_isSame_467 (by decide) ?_
            refine lv_iadd hx hb dX6_isSame_471 ?_
            refine gw_top (y := ac + (if Q 6 iy = nI i then 1 else 0)) (by first | rw [if_pos h6] | rw [if_neg h6]) ?_
            refine lv_istore (lv' := [(6, .int (ac + (if Q 6 iy = nI i then 1 else 0))), (10, .ref (ad (1, iy))), (9, .int (nI iy)), (8, .int (nI nq)), (7, .ref op), (5, .int (nI i)), (4, .ref q_2), (3, .ref q_1), (2, .int acc), (0, .ref si), (1, .ref (a 0))]) hx hb dX6_isSame_472 hl (by decide) rfl (fun ls hl => ?_)
            refine lv_iinc (v := nI (iy + 1)) (lv' := [(9, .int (nI (iy + 1))), (6, .int (ac + (if Q 6 iy = nI i then 1 else 0))), (10, .ref (ad (1, iy))), (8, .int (nI nq)), (7, .ref op), (5, .int (nI i)), (4, .ref q_2), (3, .ref q_1), (2, .int acc), (0, .ref si), (1, .ref (a 0))]) hx hb dX6_isSame_474 hl (k := 2) rfl (nI_add iy 1) (by decide) rfl (fun ls hl => ?_)
            refine lv_goto (tgt := 441) hx hb dX6_isSame_477 (by decide) ?_
            exact ih441 (kh, iy + 1, ac + (if Q 6 iy = nI i then 1 else 0)) H locs ls (by dsimp only; omega) ⟨hP, hD, hS, lv_sub hl [0, 3, 4, 1, 5, 6, 7, 8, 9, 10] rfl, (by omega), hFh⟩
    · skip
      have hi : i < nq := gw_lt (by omega) (by omega) c
      obtain ⟨k, rfl⟩ : ∃ k2, k = k2 + 1 := ⟨k - 1, by omega⟩
      obtain ⟨u, hu2, hu⟩ := gw_nat100 (hI.hdu i)
      refine lv_aload_n hx hb dX6_isSame_272 rfl (lv_at hl 4 rfl) ?_
      refine va_get (D := D) (ci := 6) (v := .ref op) (C := RX6) (T := TX6) (N := 8) hx hb hts wc_X6_isSame_X6 hown hK hP 0 rfl rfl 2 (by decide) (hts _ wd_X6_isSame_3) (fun _ h9 => h9) rfl dX6_isSame_273 ?_
      refine lv_iload hx hb dX6_isSame_276 (lv_at hl 0 rfl) ?_
      refine gw_aldA hx hb hK hP 3 3 (k := i) (v := ad (1, i)) rfl rfl (sRf_at (by first | assumption | omega)) (by first | assumption | omega) (by omega) dX6_isSame_278 ?_
      refine lv_astore (lv' := [(6, .ref (ad (1, i))), (5, .int (nI i)), (4, .ref q_2), (3, .ref q_1), (2, .int acc), (0, .ref si), (1, .ref (a 0))]) hx hb dX6_isSame_279 hl (by decide) rfl (fun ls hl => ?_)
      refine gw_cut (X := Unit) (fun (zz : Unit) H locs ls => match zz with | _ => va_P D vwCl (sW si fa ob op oc ow cI cW cO (Q 0) nb nq nr (sRf ad 0 nb) (sRf ad 1 nq) (sRf ad 2 nr) (sRf ad 3 nw) (nI nw) (nI day) co ++ ((([(q_2, .inl (cI, 3, .inl upo)), (q_1, .inl (cI, 5, .inl ofB))] ++ ts) ++ gG a cI cZ Q T nb nq nw nr day nbt nqt nwt dayt co ca bo) ++ sPl nb nq nr nw ad (sEn cI (Q 1) (Q 2) (Q 3) (Q 4) (Q 5) (Q 6) (Q 7) (Q 8) (Q 9) (Q 11) (Q 12) (Q 13) ca sv rl))) H ∧ va_D A (sW si fa ob op oc ow cI cW cO (Q 0) nb nq nr (sRf ad 0 nb) (sRf ad 1 nq) (sRf ad 2 nr) (sRf ad 3 nw) (nI nw) (nI day) co ++ ((([(q_2, .inl (cI, 3, .inl upo)), (q_1, .inl (cI, 5, .inl ofB))] ++ ts) ++ gG a cI cZ Q T nb nq nw nr day nbt nqt nwt dayt co ca bo) ++ sPl nb nq nr nw ad (sEn cI (Q 1) (Q 2) (Q 3) (Q 4) (Q 5) (Q 6) (Q 7) (Q 8) (Q 9) (Q 11) (Q 12) (Q 13) ca sv rl))) ∧ va_S A s.heap H locs ∧ lv_has ls 11 [(6, .ref (ad (1, i))), (5, .int (nI i)), (4, .ref q_2), (3, .ref q_1), (2, .int acc), (0, .ref si), (1, .ref (a 0)), (7, .int (gTired (Q 6 i) (Q 7 i) (Q 1 (Q 6 i).toNatClampNeg)))] ∧ True) (fun (zz : Unit) ls => match zz with | _ => F0 m 334 ls []) (62 + i) (368 + 5 * i) (fun hK334 => ?_) ?_
      · skip
        refine lv_aload hx hb dX6_isSame_281 (lv_at hl 0 rfl) ?_
        refine lv_iconst (v := 1) hx hb dX6_isSame_283 (by decide) ?_
        obtain ⟨i_42, hi_42, si_42⟩ := sAt1 (k := i) hP (by first | assumption | omega)
        refine gw_top (y := nI 1) rfl ?_
        refine gw_iald hx hb hK hP i_42 0 (k := 1) hi_42 rfl (by first | decide | omega) (by decide) dX6_isSame_284 ?_
        refine gw_top (y := Q 6 i) rfl ?_
        refine lv_if_ge (tgt := 292) hx hb dX6_isSame_285 (by decide) (fun p1 => ?_) (fun p1 => ?_)
        · skip
          have hn6 : ¬ Q 6 i = -1 := fun e9 => absurd p1 (by rw [e9]; decide)
          obtain ⟨b, hbb, hbe⟩ : ∃ b, b < nb ∧ Q 6 i = nI b := (hI.hpl i hi).resolve_left hn6
          obtain ⟨g, hg9, hg⟩ := gI_of (n := 9) (by decide) ⟨Int32.le_trans (by decide) (hI.hgr b hbb).1, (hI.hgr b hbb).2⟩
          have hg1 : 1 ≤ g := by have h9 : g ≠ 0 := (fun e9 => absurd (hI.hgr b hbb).1 (by rw [hg, e9]; decide)); omega
          refine lv_iconst (v := 0) hx hb dX6_isSame_292 (by decide) ?_
          refine lv_istore (lv' := [(7, .int 0), (6, .ref (ad (1, i))), (5, .int (nI i)), (4, .ref q_2), (3, .ref q_1), (2, .int acc), (0, .ref si), (1, .ref (a 0))]) hx hb dX6_isSame_293 hl (by decide) rfl (fun ls hl => ?_)
          refine lv_aload hx hb dX6_isSame_295 (lv_at hl 1 rfl) ?_
          refine lv_iconst (v := 1) hx hb dX6_isSame_297 (by decide) ?_
          obtain ⟨i_44, hi_44, si_44⟩ := sAt1 (k := i) hP (by first | assumption | omega)
          refine gw_top (y := nI 1) rfl ?_
          refine gw_iald hx hb hK hP i_44 0 (k := 1) hi_44 rfl (by first | decide | omega) (by decide) dX6_isSame_298 ?_
          refine gw_top (y := Q 6 i) rfl ?_
          refine lv_if_lt (tgt := 334) hx hb dX6_isSame_299 (by decide) (fun p2 => (by first | exact absurd p2 (Int32.not_lt.mpr p1) | exact absurd (Int32.not_lt.mpr p1) p2)) (fun p2 => ?_)
          refine gw_loop (fun (zz : Nat) H locs ls => match zz with | d => va_P D vwCl (sW si fa ob op oc ow cI cW cO (Q 0) nb nq nr (sRf ad 0 nb) (sRf ad 1 nq) (sRf ad 2 nr) (sRf ad 3 nw) (nI nw) (nI day) co ++ ((([(q_2, .inl (cI, 3, .inl upo)), (q_1, .inl (cI, 5, .inl ofB))] ++ ts) ++ gG a cI cZ Q T nb nq nw nr day nbt nqt nwt dayt co ca bo) ++ sPl nb nq nr nw ad (sEn cI (Q 1) (Q 2) (Q 3) (Q 4) (Q 5) (Q 6) (Q 7) (Q 8) (Q 9) (Q 11) (Q 12) (Q 13) ca sv rl))) H ∧ va_D A (sW si fa ob op oc ow cI cW cO (Q 0) nb nq nr (sRf ad 0 nb) (sRf ad 1 nq) (sRf ad 2 nr) (sRf ad 3 nw) (nI nw) (nI day) co ++ ((([(q_2, .inl (cI, 3, .inl upo)), (q_1, .inl (cI, 5, .inl ofB))] ++ ts) ++ gG a cI cZ Q T nb nq nw nr day nbt nqt nwt dayt co ca bo) ++ sPl nb nq nr nw ad (sEn cI (Q 1) (Q 2) (Q 3) (Q 4) (Q 5) (Q 6) (Q 7) (Q 8) (Q 9) (Q 11) (Q 12) (Q 13) ca sv rl))) ∧ va_S A s.heap H locs ∧ lv_has ls 11 [(7, .int (nI d)), (6, .ref (ad (1, i))), (5, .int (nI i)), (4, .ref q_2), (3, .ref q_1), (2, .int acc), (0, .ref si), (1, .ref (a 0))] ∧ (d = 0 ∨ u + (d - 1) * (g + 1) < 60) ∧ (d ≤ 60)) (fun (zz : Nat) => match zz with | d => 61 - d) 0 ⟨hP, hD, hS, lv_sub hl [0, 1, 2, 3, 4, 5, 6, 7] rfl, (Or.inl rfl), (by omega)⟩ ?_
          rintro d ih H locs ls ⟨hP, hD, hS, hl, hdm, hd9⟩
          have hP : va_P D vwCl (sW si fa ob op oc ow cI cW cO (Q 0) nb nq nr (sRf ad 0 nb) (sRf ad 1 nq) (sRf ad 2 nr) (sRf ad 3 nw) (nI nw) (nI day) co ++ ((([(q_2, .inl (cI, 3, .inl upo)), (q_1, .inl (cI, 5, .inl ofB))] ++ ts) ++ gG a cI cZ Q T nb nq nw nr day nbt nqt nwt dayt co ca bo) ++ sPl nb nq nr nw ad (sEn cI (Q 1) (Q 2) (Q 3) (Q 4) (Q 5) (Q 6) (Q 7) (Q 8) (Q 9) (Q 11) (Q 12) (Q 13) ca sv rl))) H := hP
          have hD : va_D A (sW si fa ob op oc ow cI cW cO (Q 0) nb nq nr (sRf ad 0 nb) (sRf ad 1 nq) (sRf ad 2 nr) (sRf ad 3 nw) (nI nw) (nI day) co ++ ((([(q_2, .inl (cI, 3, .inl upo)), (q_1, .inl (cI, 5, .inl ofB))] ++ ts) ++ gG a cI cZ Q T nb nq nw nr day nbt nqt nwt dayt co ca bo) ++ sPl nb nq nr nw ad (sEn cI (Q 1) (Q 2) (Q 3) (Q 4) (Q 5) (Q 6) (Q 7) (Q 8) (Q 9) (Q 11) (Q 12) (Q 13) ca sv rl))) := hD
          have hl : lv_has ls 11 [(7, .int (nI d)), (6, .ref (ad (1, i))), (5, .int (nI i)), (4, .ref q_2), (3, .ref q_1), (2, .int acc), (0, .ref si), (1, .ref (a 0))] := hl
          have hdm : d = 0 ∨ u + (d - 1) * (g + 1) < 60 := hdm
          have hd9 : d ≤ 60 := hd9
          have ih302 := ih
          refine lv_aload hx hb dX6_isSame_302 (lv_at hl 1 rfl) ?_
          refine lv_iconst (v := 2) hx hb dX6_isSame_304 (by decide) ?_
          obtain ⟨i_46, hi_46, si_46⟩ := sAt1 (k := i) hP (by first | assumption | omega)
          refine gw_top (y := nI 2) rfl ?_
          refine gw_iald hx hb hK hP i_46 0 (k := 2) hi_46 rfl (by first | decide | omega) (by decide) dX6_isSame_305 ?_
          refine gw_top (y := Q 7 i) rfl ?_
          refine lv_iload hx hb dX6_isSame_306 (lv_at hl 0 rfl) ?_
          refine lv_aload_n hx hb dX6_isSame_308 rfl (lv_at hl 6 rfl) ?_
          refine va_get (D := D) (ci := 6) (v := .ref ob) (C := RX6) (T := TX6) (N := 8) hx hb hts wc_X6_isSame_X6 hown hK hP 0 rfl rfl 1 (by decide) (hts _ wd_X6_isSame_4) (fun _ h9 => h9) rfl dX6_isSame_309 ?_
          refine lv_aload hx hb dX6_isSame_312 (lv_at hl 1 rfl) ?_
          refine lv_iconst (v := 1) hx hb dX6_isSame_314 (by decide) ?_
          obtain ⟨i_47, hi_47, si_47⟩ := sAt1 (k := i) hP (by first | assumption | omega)
          refine gw_top (y := nI 1) rfl ?_
          refine gw_iald hx hb hK hP i_47 0 (k := 1) hi_47 rfl (by first | decide | omega) (by decide) dX6_isSame_315 ?_
          refine gw_top (y := Q 6 i) rfl ?_
          refine gw_top (y := nI b) hbe ?_
          refine gw_aldA hx hb hK hP 2 3 (k := b) (v := ad (0, b)) rfl rfl (sRf_at hbb) hbb (by omega) dX6_isSame_316 ?_
          refine lv_iconst (v := 0) hx hb dX6_isSame_317 (by decide) ?_
          obtain ⟨i_48, hi_48, si_48⟩ := sAt0 (k := b) hP hbb
          refine gw_top (y := nI 0) rfl ?_
          refine gw_iald hx hb hK hP i_48 0 (k := 0) hi_48 rfl (by first | decide | omega) (by decide) dX6_isSame_318 ?_
          refine gw_top (y := Q 1 b) rfl ?_
          refine lv_iconst (v := 1) hx hb dX6_isSame_319 (by decide) ?_
          refine lv_iadd hx hb dX6_isSame_320 ?_
          refine lv_imul hx hb dX6_isSame_321 ?_
          refine lv_iadd hx hb dX6_isSame_322 ?_
          refine gw_top (y := nI (u + d * (g + 1))) (by rw [hu, hg, nI_1, nI_mul, nI_add]) ?_
          refine lv_bipush (v := 60) hx hb dX6_isSame_323 (by decide) ?_
          refine lv_icmp_ge (tgt := 334) hx hb dX6_isSame_325 (by decide) (fun dc => ?_) (fun dc => ?_)
          · skip
            have ht7 : gTired (Q 6 i) (Q 7 i) (Q 1 (Q 6 i).toNatClampNeg) = nI d := ss_T hbe (by omega) hu hu2 hg (by omega) hdm (by have h9 := gw_ge (n := 60) (i := u + d * (g + 1)) (by have h8 : d * (g + 1) ≤ 60 * 10 := Nat.mul_le_mul hd9 (by omega); omega) (by omega) dc; omega)
            have hl : lv_has ls 11 [(7, .int (gTired (Q 6 i) (Q 7 i) (Q 1 (Q 6 i).toNatClampNeg))), (6, .ref (ad (1, i))), (5, .int (nI i)), (4, .ref q_2), (3, .ref q_1), (2, .int acc), (0, .ref si), (1, .ref (a 0))] := by rw [ht7]; exact hl
            exact hK334 () _ _ _ ⟨hP, hD, hS, lv_sub hl [1, 2, 3, 4, 5, 6, 7, 0] rfl, trivial⟩
          · skip
            have h80 : d * (g + 1) ≤ 60 * 10 := Nat.mul_le_mul hd9 (by omega)
            have h60 : u + d * (g + 1) < 60 := gw_lt (n := 60) (by omega) (by omega) dc
            have hd59 : d + 1 ≤ 60 := by have h7 : d * 1 ≤ d * (g + 1) := Nat.mul_le_mul (Nat.le_refl d) (by omega); omega
            refine lv_iinc (v := nI (d + 1)) (lv' := [(7, .int (nI (d + 1))), (6, .ref (ad (1, i))), (5, .int (nI i)), (4, .ref q_2), (3, .ref q_1), (2, .int acc), (0, .ref si), (1, .ref (a 0))]) hx hb dX6_isSame_328 hl (k := 0) rfl (nI_add d 1) (by decide) rfl (fun ls hl => ?_)
            refine lv_goto (tgt := 302) hx hb dX6_isSame_331 (by decide) ?_
            exact ih302 (d + 1) H locs ls (by dsimp only; omega) ⟨hP, hD, hS, lv_sub hl [0, 1, 2, 3, 4, 5, 6, 7] rfl, (Or.inr (by rw [Nat.add_sub_cancel]; exact h60)), hd59⟩
        · skip
          have p6 : Q 6 i = -1 := (hI.hpl i hi).resolve_right (fun ⟨k9, hk9, e9⟩ => p1 (by rw [e9]; exact nI_pos' (by omega)))
          refine lv_iconst (v := (-1)) hx hb dX6_isSame_288 (by decide) ?_
          refine lv_goto (tgt := 293) hx hb dX6_isSame_289 (by decide) ?_
          refine lv_istore (lv' := [(7, .int (-1)), (6, .ref (ad (1, i))), (5, .int (nI i)), (4, .ref q_2), (3, .ref q_1), (2, .int acc), (0, .ref si), (1, .ref (a 0))]) hx hb dX6_isSame_293 hl (by decide) rfl (fun ls hl => ?_)
          refine lv_aload hx hb dX6_isSame_295 (lv_at hl 1 rfl) ?_
          refine lv_iconst (v := 1) hx hb dX6_isSame_297 (by decide) ?_
          obtain ⟨i_50, hi_50, si_50⟩ := sAt1 (k := i) hP (by first | assumption | omega)
          refine gw_top (y := nI 1) rfl ?_
          refine gw_iald hx hb hK hP i_50 0 (k := 1) hi_50 rfl (by first | decide | omega) (by decide) dX6_isSame_298 ?_
          refine gw_top (y := Q 6 i) rfl ?_
          refine lv_if_lt (tgt := 334) hx hb dX6_isSame_299 (by decide) (fun p2 => ?_) (fun p2 => (by first | exact absurd p2 (show Q 6 i < 0 by rw [p6]; decide) | exact absurd (show Q 6 i < 0 by rw [p6]; decide) p2))
          have ht7 : gTired (Q 6 i) (Q 7 i) (Q 1 (Q 6 i).toNatClampNeg) = (-1) := ss_T0 p6
          have hl : lv_has ls 11 [(7, .int (gTired (Q 6 i) (Q 7 i) (Q 1 (Q 6 i).toNatClampNeg))), (6, .ref (ad (1, i))), (5, .int (nI i)), (4, .ref q_2), (3, .ref q_1), (2, .int acc), (0, .ref si), (1, .ref (a 0))] := by rw [ht7]; exact hl
          exact hK334 () _ _ _ ⟨hP, hD, hS, lv_sub hl [1, 2, 3, 4, 5, 6, 7, 0] rfl, trivial⟩
      · skip
        rintro - H locs ls ⟨hP, hD, hS, hl, -⟩
        have hP : va_P D vwCl (sW si fa ob op oc ow cI cW cO (Q 0) nb nq nr (sRf ad 0 nb) (sRf ad 1 nq) (sRf ad 2 nr) (sRf ad 3 nw) (nI nw) (nI day) co ++ ((([(q_2, .inl (cI, 3, .inl upo)), (q_1, .inl (cI, 5, .inl ofB))] ++ ts) ++ gG a cI cZ Q T nb nq nw nr day nbt nqt nwt dayt co ca bo) ++ sPl nb nq nr nw ad (sEn cI (Q 1) (Q 2) (Q 3) (Q 4) (Q 5) (Q 6) (Q 7) (Q 8) (Q 9) (Q 11) (Q 12) (Q 13) ca sv rl))) H := hP
        have hD : va_D A (sW si fa ob op oc ow cI cW cO (Q 0) nb nq nr (sRf ad 0 nb) (sRf ad 1 nq) (sRf ad 2 nr) (sRf ad 3 nw) (nI nw) (nI day) co ++ ((([(q_2, .inl (cI, 3, .inl upo)), (q_1, .inl (cI, 5, .inl ofB))] ++ ts) ++ gG a cI cZ Q T nb nq nw nr day nbt nqt nwt dayt co ca bo) ++ sPl nb nq nr nw ad (sEn cI (Q 1) (Q 2) (Q 3) (Q 4) (Q 5) (Q 6) (Q 7) (Q 8) (Q 9) (Q 11) (Q 12) (Q 13) ca sv rl))) := hD
        have hl : lv_has ls 11 [(6, .ref (ad (1, i))), (5, .int (nI i)), (4, .ref q_2), (3, .ref q_1), (2, .int acc), (0, .ref si), (1, .ref (a 0)), (7, .int (gTired (Q 6 i) (Q 7 i) (Q 1 (Q 6 i).toNatClampNeg)))] := hl
        refine lv_iconst (v := 5) hx hb dX6_isSame_334 (by decide) ?_
        refine gw_newI hx hb (hts _ wd_X6_isSame_0) hK 0 rfl hP hD hS hA (n := 5) (N' := 5) (by decide) (by decide) (by decide) (by show _ ≤ 80; omega) (by show _ ≤ 500; omega) dX6_isSame_335 (fun q_52 H hP hD hS => ?_)
        obtain ⟨hP, hD⟩ := gPD_new hP hD
        have hP : va_P D vwCl (sW si fa ob op oc ow cI cW cO (Q 0) nb nq nr (sRf ad 0 nb) (sRf ad 1 nq) (sRf ad 2 nr) (sRf ad 3 nw) (nI nw) (nI day) co ++ ((([(q_52, .inl (cI, 5, .inl (fun _ => 0))), (q_2, .inl (cI, 3, .inl upo)), (q_1, .inl (cI, 5, .inl ofB))] ++ ts) ++ gG a cI cZ Q T nb nq nw nr day nbt nqt nwt dayt co ca bo) ++ sPl nb nq nr nw ad (sEn cI (Q 1) (Q 2) (Q 3) (Q 4) (Q 5) (Q 6) (Q 7) (Q 8) (Q 9) (Q 11) (Q 12) (Q 13) ca sv rl))) _ := hP
        have hD : va_D A (sW si fa ob op oc ow cI cW cO (Q 0) nb nq nr (sRf ad 0 nb) (sRf ad 1 nq) (sRf ad 2 nr) (sRf ad 3 nw) (nI nw) (nI day) co ++ ((([(q_52, .inl (cI, 5, .inl (fun _ => 0))), (q_2, .inl (cI, 3, .inl upo)), (q_1, .inl (cI, 5, .inl ofB))] ++ ts) ++ gG a cI cZ Q T nb nq nw nr day nbt nqt nwt dayt co ca bo) ++ sPl nb nq nr nw ad (sEn cI (Q 1) (Q 2) (Q 3) (Q 4) (Q 5) (Q 6) (Q 7) (Q 8) (Q 9) (Q 11) (Q 12) (Q 13) ca sv rl))) := hD
        refine W.widen (k := 63 + i) (n := 373 + 5 * i) (by omega) (by omega) ?_
        refine lv_dup hx hb dX6_isSame_337 rfl ?_
        refine lv_iconst (v := 0) hx hb dX6_isSame_338 (by decide) ?_
        refine lv_aload hx hb dX6_isSame_339 (lv_at hl 0 rfl) ?_
        refine lv_iconst (v := 0) hx hb dX6_isSame_341 (by decide) ?_
        obtain ⟨i_53, hi_53, si_53⟩ := sAt1 (k := i) hP (by first | assumption | omega)
        refine gw_top (y := nI 0) rfl ?_
        refine gw_iald hx hb hK hP i_53 0 (k := 0) hi_53 rfl (by first | decide | omega) (by decide) dX6_isSame_342 ?_
        refine gw_top (y := Q 5 i) rfl ?_
        refine gw_top2 (y := nI 0) rfl ?_
        refine gw_iast hx hb hK hP hD hS 6 0 (k := 0) rfl rfl (by first | decide | omega) (by decide) dX6_isSame_343 (fun H locs hP hD hS => ?_)
        have hP : va_P D vwCl (sW si fa ob op oc ow cI cW cO (Q 0) nb nq nr (sRf ad 0 nb) (sRf ad 1 nq) (sRf ad 2 nr) (sRf ad 3 nw) (nI nw) (nI day) co ++ ((([(q_52, .inl (cI, 5, .inl (upd (fun _ => 0) 0 (Q 5 i)))), (q_2, .inl (cI, 3, .inl upo)), (q_1, .inl (cI, 5, .inl ofB))] ++ ts) ++ gG a cI cZ Q T nb nq nw nr day nbt nqt nwt dayt co ca bo) ++ sPl nb nq nr nw ad (sEn cI (Q 1) (Q 2) (Q 3) (Q 4) (Q 5) (Q 6) (Q 7) (Q 8) (Q 9) (Q 11) (Q 12) (Q 13) ca sv rl))) _ := hP
        have hD : va_D A (sW si fa ob op oc ow cI cW cO (Q 0) nb nq nr (sRf ad 0 nb) (sRf ad 1 nq) (sRf ad 2 nr) (sRf ad 3 nw) (nI nw) (nI day) co ++ ((([(q_52, .inl (cI, 5, .inl (upd (fun _ => 0) 0 (Q 5 i)))), (q_2, .inl (cI, 3, .inl upo)), (q_1, .inl (cI, 5, .inl ofB))] ++ ts) ++ gG a cI cZ Q T nb nq nw nr day nbt nqt nwt dayt co ca bo) ++ sPl nb nq nr nw ad (sEn cI (Q 1) (Q 2) (Q 3) (Q 4) (Q 5) (Q 6) (Q 7) (Q 8) (Q 9) (Q 11) (Q 12) (Q 13) ca sv rl))) := hD
        refine lv_dup hx hb dX6_isSame_344 rfl ?_
        refine lv_iconst (v := 1) hx hb dX6_isSame_345 (by decide) ?_
        refine lv_aload hx hb dX6_isSame_346 (lv_at hl 0 rfl) ?_
        refine lv_iconst (v := 1) hx hb dX6_isSame_348 (by decide) ?_
        obtain ⟨i_54, hi_54, si_54⟩ := sAt1 (k := i) hP (by first | assumption | omega)
        refine gw_top (y := nI 1) rfl ?_
        refine gw_iald hx hb hK hP i_54 0 (k := 1) hi_54 rfl (by first | decide | omega) (by decide) dX6_isSame_349 ?_
        refine gw_top (y := Q 6 i) rfl ?_
        refine gw_top2 (y := nI 1) rfl ?_
        refine gw_iast hx hb hK hP hD hS 6 0 (k := 1) rfl rfl (by first | decide | omega) (by decide) dX6_isSame_350 (fun H locs hP hD hS => ?_)
        have hP : va_P D vwCl (sW si fa ob op oc ow cI cW cO (Q 0) nb nq nr (sRf ad 0 nb) (sRf ad 1 nq) (sRf ad 2 nr) (sRf ad 3 nw) (nI nw) (nI day) co ++ ((([(q_52, .inl (cI, 5, .inl (upd (upd (fun _ => 0) 0 (Q 5 i)) 1 (Q 6 i)))), (q_2, .inl (cI, 3, .inl upo)), (q_1, .inl (cI, 5, .inl ofB))] ++ ts) ++ gG a cI cZ Q T nb nq nw nr day nbt nqt nwt dayt co ca bo) ++ sPl nb nq nr nw ad (sEn cI (Q 1) (Q 2) (Q 3) (Q 4) (Q 5) (Q 6) (Q 7) (Q 8) (Q 9) (Q 11) (Q 12) (Q 13) ca sv rl))) _ := hP
        have hD : va_D A (sW si fa ob op oc ow cI cW cO (Q 0) nb nq nr (sRf ad 0 nb) (sRf ad 1 nq) (sRf ad 2 nr) (sRf ad 3 nw) (nI nw) (nI day) co ++ ((([(q_52, .inl (cI, 5, .inl (upd (upd (fun _ => 0) 0 (Q 5 i)) 1 (Q 6 i)))), (q_2, .inl (cI, 3, .inl upo)), (q_1, .inl (cI, 5, .inl ofB))] ++ ts) ++ gG a cI cZ Q T nb nq nw nr day nbt nqt nwt dayt co ca bo) ++ sPl nb nq nr nw ad (sEn cI (Q 1) (Q 2) (Q 3) (Q 4) (Q 5) (Q 6) (Q 7) (Q 8) (Q 9) (Q 11) (Q 12) (Q 13) ca sv rl))) := hD
        refine lv_dup hx hb dX6_isSame_351 rfl ?_
        refine lv_iconst (v := 2) hx hb dX6_isSame_352 (by decide) ?_
        refine lv_aload hx hb dX6_isSame_353 (lv_at hl 0 rfl) ?_
        refine lv_iconst (v := 2) hx hb dX6_isSame_355 (by decide) ?_
        obtain ⟨i_55, hi_55, si_55⟩ := sAt1 (k := i) hP (by first | assumption | omega)
        refine gw_top (y := nI 2) rfl ?_
        refine gw_iald hx hb hK hP i_55 0 (k := 2) hi_55 rfl (by first | decide | omega) (by decide) dX6_isSame_356 ?_
        refine gw_top (y := Q 7 i) rfl ?_
        refine gw_top2 (y := nI 2) rfl ?_
        refine gw_iast hx hb hK hP hD hS 6 0 (k := 2) rfl rfl (by first | decide | omega) (by decide) dX6_isSame_357 (fun H locs hP hD hS => ?_)
        have hP : va_P D vwCl (sW si fa ob op oc ow cI cW cO (Q 0) nb nq nr (sRf ad 0 nb) (sRf ad 1 nq) (sRf ad 2 nr) (sRf ad 3 nw) (nI nw) (nI day) co ++ ((([(q_52, .inl (cI, 5, .inl (upd (upd (upd (fun _ => 0) 0 (Q 5 i)) 1 (Q 6 i)) 2 (Q 7 i)))), (q_2, .inl (cI, 3, .inl upo)), (q_1, .inl (cI, 5, .inl ofB))] ++ ts) ++ gG a cI cZ Q T nb nq nw nr day nbt nqt nwt dayt co ca bo) ++ sPl nb nq nr nw ad (sEn cI (Q 1) (Q 2) (Q 3) (Q 4) (Q 5) (Q 6) (Q 7) (Q 8) (Q 9) (Q 11) (Q 12) (Q 13) ca sv rl))) _ := hP
        have hD : va_D A (sW si fa ob op oc ow cI cW cO (Q 0) nb nq nr (sRf ad 0 nb) (sRf ad 1 nq) (sRf ad 2 nr) (sRf ad 3 nw) (nI nw) (nI day) co ++ ((([(q_52, .inl (cI, 5, .inl (upd (upd (upd (fun _ => 0) 0 (Q 5 i)) 1 (Q 6 i)) 2 (Q 7 i)))), (q_2, .inl (cI, 3, .inl upo)), (q_1, .inl (cI, 5, .inl ofB))] ++ ts) ++ gG a cI cZ Q T nb nq nw nr day nbt nqt nwt dayt co ca bo) ++ sPl nb nq nr nw ad (sEn cI (Q 1) (Q 2) (Q 3) (Q 4) (Q 5) (Q 6) (Q 7) (Q 8) (Q 9) (Q 11) (Q 12) (Q 13) ca sv rl))) := hD
        refine lv_dup hx hb dX6_isSame_358 rfl ?_
        refine lv_iconst (v := 3) hx hb dX6_isSame_359 (by decide) ?_
        refine lv_aload hx hb dX6_isSame_360 (lv_at hl 0 rfl) ?_
        refine lv_iconst (v := 3) hx hb dX6_isSame_362 (by decide) ?_
        obtain ⟨i_56, hi_56, si_56⟩ := sAt1 (k := i) hP (by first | assumption | omega)
        refine gw_top (y := nI 3) rfl ?_
        refine gw_iald hx hb hK hP i_56 0 (k := 3) hi_56 rfl (by first | decide | omega) (by decide) dX6_isSame_363 ?_
        refine gw_top (y := Q 8 i) rfl ?_
        refine gw_top2 (y := nI 3) rfl ?_
        refine gw_iast hx hb hK hP hD hS 6 0 (k := 3) rfl rfl (by first | decide | omega) (by decide) dX6_isSame_364 (fun H locs hP hD hS => ?_)
        have hP : va_P D vwCl (sW si fa ob op oc ow cI cW cO (Q 0) nb nq nr (sRf ad 0 nb) (sRf ad 1 nq) (sRf ad 2 nr) (sRf ad 3 nw) (nI nw) (nI day) co ++ ((([(q_52, .inl (cI, 5, .inl (upd (upd (upd (upd (fun _ => 0) 0 (Q 5 i)) 1 (Q 6 i)) 2 (Q 7 i)) 3 (Q 8 i)))), (q_2, .inl (cI, 3, .inl upo)), (q_1, .inl (cI, 5, .inl ofB))] ++ ts) ++ gG a cI cZ Q T nb nq nw nr day nbt nqt nwt dayt co ca bo) ++ sPl nb nq nr nw ad (sEn cI (Q 1) (Q 2) (Q 3) (Q 4) (Q 5) (Q 6) (Q 7) (Q 8) (Q 9) (Q 11) (Q 12) (Q 13) ca sv rl))) _ := hP
        have hD : va_D A (sW si fa ob op oc ow cI cW cO (Q 0) nb nq nr (sRf ad 0 nb) (sRf ad 1 nq) (sRf ad 2 nr) (sRf ad 3 nw) (nI nw) (nI day) co ++ ((([(q_52, .inl (cI, 5, .inl (upd (upd (upd (upd (fun _ => 0) 0 (Q 5 i)) 1 (Q 6 i)) 2 (Q 7 i)) 3 (Q 8 i)))), (q_2, .inl (cI, 3, .inl upo)), (q_1, .inl (cI, 5, .inl ofB))] ++ ts) ++ gG a cI cZ Q T nb nq nw nr day nbt nqt nwt dayt co ca bo) ++ sPl nb nq nr nw ad (sEn cI (Q 1) (Q 2) (Q 3) (Q 4) (Q 5) (Q 6) (Q 7) (Q 8) (Q 9) (Q 11) (Q 12) (Q 13) ca sv rl))) := hD
        refine lv_dup hx hb dX6_isSame_365 rfl ?_
        refine lv_iconst (v := 4) hx hb dX6_isSame_366 (by decide) ?_
        refine lv_iload hx hb dX6_isSame_367 (lv_at hl 7 rfl) ?_
        refine gw_top2 (y := nI 4) rfl ?_
        refine gw_iast hx hb hK hP hD hS 6 0 (k := 4) rfl rfl (by first | decide | omega) (by decide) dX6_isSame_369 (fun H locs hP hD hS => ?_)
        have hP : va_P D vwCl (sW si fa ob op oc ow cI cW cO (Q 0) nb nq nr (sRf ad 0 nb) (sRf ad 1 nq) (sRf ad 2 nr) (sRf ad 3 nw) (nI nw) (nI day) co ++ ((([(q_52, .inl (cI, 5, .inl (upd (upd (upd (upd (upd (fun _ => 0) 0 (Q 5 i)) 1 (Q 6 i)) 2 (Q 7 i)) 3 (Q 8 i)) 4 (gTired (Q 6 i) (Q 7 i) (Q 1 (Q 6 i).toNatClampNeg))))), (q_2, .inl (cI, 3, .inl upo)), (q_1, .inl (cI, 5, .inl ofB))] ++ ts) ++ gG a cI cZ Q T nb nq nw nr day nbt nqt nwt dayt co ca bo) ++ sPl nb nq nr nw ad (sEn cI (Q 1) (Q 2) (Q 3) (Q 4) (Q 5) (Q 6) (Q 7) (Q 8) (Q 9) (Q 11) (Q 12) (Q 13) ca sv rl))) _ := hP
        have hD : va_D A (sW si fa ob op oc ow cI cW cO (Q 0) nb nq nr (sRf ad 0 nb) (sRf ad 1 nq) (sRf ad 2 nr) (sRf ad 3 nw) (nI nw) (nI day) co ++ ((([(q_52, .inl (cI, 5, .inl (upd (upd (upd (upd (upd (fun _ => 0) 0 (Q 5 i)) 1 (Q 6 i)) 2 (Q 7 i)) 3 (Q 8 i)) 4 (gTired (Q 6 i) (Q 7 i) (Q 1 (Q 6 i).toNatClampNeg))))), (q_2, .inl (cI, 3, .inl upo)), (q_1, .inl (cI, 5, .inl ofB))] ++ ts) ++ gG a cI cZ Q T nb nq nw nr day nbt nqt nwt dayt co ca bo) ++ sPl nb nq nr nw ad (sEn cI (Q 1) (Q 2) (Q 3) (Q 4) (Q 5) (Q 6) (Q 7) (Q 8) (Q 9) (Q 11) (Q 12) (Q 13) ca sv rl))) := hD
        refine lv_astore (lv' := [(8, .ref q_52), (6, .ref (ad (1, i))), (5, .int (nI i)), (4, .ref q_2), (3, .ref q_1), (2, .int acc), (0, .ref si), (1, .ref (a 0)), (7, .int (gTired (Q 6 i) (Q 7 i) (Q 1 (Q 6 i).toNatClampNeg)))]) hx hb dX6_isSame_370 hl (by decide) rfl (fun ls hl => ?_)
        refine lv_iconst (v := 0) hx hb dX6_isSame_372 (by decide) ?_
        refine lv_istore (lv' := [(9, .int 0), (8, .ref q_52), (6, .ref (ad (1, i))), (5, .int (nI i)), (4, .ref q_2), (3, .ref q_1), (2, .int acc), (0, .ref si), (1, .ref (a 0)), (7, .int (gTired (Q 6 i) (Q 7 i) (Q 1 (Q 6 i).toNatClampNeg)))]) hx hb dX6_isSame_373 hl (by decide) rfl (fun ls hl => ?_)
        refine gw_loop (fun (zz : Nat × Nat) H locs ls => match zz with | (kv, v) => va_P D vwCl (sW si fa ob op oc ow cI cW cO (Q 0) nb nq nr (sRf ad 0 nb) (sRf ad 1 nq) (sRf ad 2 nr) (sRf ad 3 nw) (nI nw) (nI day) co ++ ((([(q_52, .inl (cI, 5, .inl (upd (upd (upd (upd (upd (fun _ => 0) 0 (Q 5 i)) 1 (Q 6 i)) 2 (Q 7 i)) 3 (Q 8 i)) 4 (gTired (Q 6 i) (Q 7 i) (Q 1 (Q 6 i).toNatClampNeg))))), (q_2, .inl (cI, 3, .inl upo)), (q_1, .inl (cI, 5, .inl ofB))] ++ ts) ++ gG a cI cZ Q T nb nq nw nr day nbt nqt nwt dayt co ca bo) ++ sPl nb nq nr nw ad (sEn cI (Q 1) (Q 2) (Q 3) (Q 4) (Q 5) (Q 6) (Q 7) (Q 8) (Q 9) (Q 11) (Q 12) (Q 13) ca sv rl))) H ∧ va_D A (sW si fa ob op oc ow cI cW cO (Q 0) nb nq nr (sRf ad 0 nb) (sRf ad 1 nq) (sRf ad 2 nr) (sRf ad 3 nw) (nI nw) (nI day) co ++ ((([(q_52, .inl (cI, 5, .inl (upd (upd (upd (upd (upd (fun _ => 0) 0 (Q 5 i)) 1 (Q 6 i)) 2 (Q 7 i)) 3 (Q 8 i)) 4 (gTired (Q 6 i) (Q 7 i) (Q 1 (Q 6 i).toNatClampNeg))))), (q_2, .inl (cI, 3, .inl upo)), (q_1, .inl (cI, 5, .inl ofB))] ++ ts) ++ gG a cI cZ Q T nb nq nw nr day nbt nqt nwt dayt co ca bo) ++ sPl nb nq nr nw ad (sEn cI (Q 1) (Q 2) (Q 3) (Q 4) (Q 5) (Q 6) (Q 7) (Q 8) (Q 9) (Q 11) (Q 12) (Q 13) ca sv rl))) ∧ va_S A s.heap H locs ∧ lv_has ls 11 [(9, .int (nI v)), (8, .ref q_52), (6, .ref (ad (1, i))), (5, .int (nI i)), (4, .ref q_2), (3, .ref q_1), (2, .int acc), (0, .ref si), (1, .ref (a 0)), (7, .int (gTired (Q 6 i) (Q 7 i) (Q 1 (Q 6 i).toNatClampNeg)))] ∧ (v + kv = 5)) (fun (zz : Nat × Nat) => match zz with | (kv, v) => kv) (5, 0) ⟨hP, hD, hS, lv_sub hl [0, 1, 2, 3, 4, 5, 6, 7, 8, 9] rfl, (by omega)⟩ ?_
        rintro ⟨kv, v⟩ ih H locs ls ⟨hP, hD, hS, hl, hvv⟩
        have hP : va_P D vwCl (sW si fa ob op oc ow cI cW cO (Q 0) nb nq nr (sRf ad 0 nb) (sRf ad 1 nq) (sRf ad 2 nr) (sRf ad 3 nw) (nI nw) (nI day) co ++ ((([(q_52, .inl (cI, 5, .inl (upd (upd (upd (upd (upd (fun _ => 0) 0 (Q 5 i)) 1 (Q 6 i)) 2 (Q 7 i)) 3 (Q 8 i)) 4 (gTired (Q 6 i) (Q 7 i) (Q 1 (Q 6 i).toNatClampNeg))))), (q_2, .inl (cI, 3, .inl upo)), (q_1, .inl (cI, 5, .inl ofB))] ++ ts) ++ gG a cI cZ Q T nb nq nw nr day nbt nqt nwt dayt co ca bo) ++ sPl nb nq nr nw ad (sEn cI (Q 1) (Q 2) (Q 3) (Q 4) (Q 5) (Q 6) (Q 7) (Q 8) (Q 9) (Q 11) (Q 12) (Q 13) ca sv rl))) H := hP
        have hD : va_D A (sW si fa ob op oc ow cI cW cO (Q 0) nb nq nr (sRf ad 0 nb) (sRf ad 1 nq) (sRf ad 2 nr) (sRf ad 3 nw) (nI nw) (nI day) co ++ ((([(q_52, .inl (cI, 5, .inl (upd (upd (upd (upd (upd (fun _ => 0) 0 (Q 5 i)) 1 (Q 6 i)) 2 (Q 7 i)) 3 (Q 8 i)) 4 (gTired (Q 6 i) (Q 7 i) (Q 1 (Q 6 i).toNatClampNeg))))), (q_2, .inl (cI, 3, .inl upo)), (q_1, .inl (cI, 5, .inl ofB))] ++ ts) ++ gG a cI cZ Q T nb nq nw nr day nbt nqt nwt dayt co ca bo) ++ sPl nb nq nr nw ad (sEn cI (Q 1) (Q 2) (Q 3) (Q 4) (Q 5) (Q 6) (Q 7) (Q 8) (Q 9) (Q 11) (Q 12) (Q 13) ca sv rl))) := hD
        have hl : lv_has ls 11 [(9, .int (nI v)), (8, .ref q_52), (6, .ref (ad (1, i))), (5, .int (nI i)), (4, .ref q_2), (3, .ref q_1), (2, .int acc), (0, .ref si), (1, .ref (a 0)), (7, .int (gTired (Q 6 i) (Q 7 i) (Q 1 (Q 6 i).toNatClampNeg)))] := hl
        have hvv : v + kv = 5 := hvv
        have ih375 := ih
        refine lv_iload hx hb dX6_isSame_375 (lv_at hl 0 rfl) ?_
        refine lv_iconst (v := 5) hx hb dX6_isSame_377 (by decide) ?_
        refine lv_icmp_ge (tgt := 405) hx hb dX6_isSame_378 (by decide) (fun cv => ?_) (fun cv => ?_)
        · skip
          refine lv_iinc (v := nI (i + 1)) (lv' := [(5, .int (nI (i + 1))), (9, .int (nI v)), (8, .ref q_52), (6, .ref (ad (1, i))), (4, .ref q_2), (3, .ref q_1), (2, .int acc), (0, .ref si), (1, .ref (a 0)), (7, .int (gTired (Q 6 i) (Q 7 i) (Q 1 (Q 6 i).toNatClampNeg)))]) hx hb dX6_isSame_405 hl (k := 3) rfl (nI_add i 1) (by decide) rfl (fun ls hl => ?_)
          refine lv_goto (tgt := 262) hx hb dX6_isSame_408 (by decide) ?_
          obtain ⟨hP, hD⟩ := gPD_drop (x := (q_52, .inl (cI, 5, .inl (upd (upd (upd (upd (upd (fun _ => 0) 0 (Q 5 i)) 1 (Q 6 i)) 2 (Q 7 i)) 3 (Q 8 i)) 4 (gTired (Q 6 i) (Q 7 i) (Q 1 (Q 6 i).toNatClampNeg)))))) (R := (([(q_2, .inl (cI, 3, .inl upo)), (q_1, .inl (cI, 5, .inl ofB))] ++ ts) ++ gG a cI cZ Q T nb nq nw nr day nbt nqt nwt dayt co ca bo)) hP hD
          refine W.widen (k := 62 + (i + 1)) (n := 368 + 5 * (i + 1)) (by omega) (by omega) ?_
          exact ih262 (k, i + 1) H locs ls (by dsimp only; omega) ⟨hP, hD, hS, lv_sub hl [0, 4, 5, 6, 7, 8] rfl, (by omega)⟩
        · skip
          have hv : v < 5 := gw_lt (n := 5) (by omega) (by omega) cv
          obtain ⟨kv, rfl⟩ : ∃ k2, kv = k2 + 1 := ⟨kv - 1, by omega⟩
          refine lv_aload_n hx hb dX6_isSame_381 rfl (lv_at hl 8 rfl) ?_
          refine lv_iload hx hb dX6_isSame_382 (lv_at hl 3 rfl) ?_
          refine lv_iload hx hb dX6_isSame_384 (lv_at hl 0 rfl) ?_
          refine va_calli (va_runV (As := [.int (nI i), .int (nI v)]) (rest := []) ⟨hx, hb, hml, hown, hts⟩ (met_W_quarrier l D cI cZ cW cO a Q T nb nq nw nr day nbt nqt nwt dayt co ca bo i v hi (by first | assumption | omega) hv (by first | assumption | omega) hI.hpl) (cwV 2 hts gX6_isSame_X5_quarrier rfl rfl rfl (by decide +kernel) ⟨Nat.le_of_ble_eq_true rfl, Nat.le_of_ble_eq_true rfl⟩) (gv_pvr hK (gP_G hP) 5 rfl rfl rfl) rfl rfl hl.1 rfl (lv_room (Nat.le_of_ble_eq_true rfl)) dX6_isSame_386 ⟨(by show _ ≤ 80; omega), (by show _ ≤ 500; omega)⟩) hS (fun _ _ z => z.elim) (fun _ z => z.elim) (fun r_58 _ t H1 locs ht hvm hw hB hz1 hk1 hS => ?_)
          have hP := gw_ro hP hk1
          generalize H1 = H at hP hS ⊢
          subst hw
          refine lv_aload hx hb dX6_isSame_389 (lv_at hl 1 rfl) ?_
          refine lv_iload hx hb dX6_isSame_391 (lv_at hl 0 rfl) ?_
          refine gw_iald hx hb hK hP 6 0 (k := v) rfl rfl hv (by decide) dX6_isSame_393 ?_
          refine lv_icmp_eq (tgt := 399) hx hb dX6_isSame_394 (by decide) (fun c_59 => ?_) (fun c_59 => (by first | exact absurd c_59 (sn_5 v hv).symm | exact absurd (sn_5 v hv).symm c_59))
          refine lv_iinc (v := nI (v + 1)) (lv' := [(9, .int (nI (v + 1))), (8, .ref q_52), (6, .ref (ad (1, i))), (5, .int (nI i)), (4, .ref q_2), (3, .ref q_1), (2, .int acc), (0, .ref si), (1, .ref (a 0)), (7, .int (gTired (Q 6 i) (Q 7 i) (Q 1 (Q 6 i).toNatClampNeg)))]) hx hb dX6_isSame_399 hl (k := 0) rfl (nI_add v 1) (by decide) rfl (fun ls hl => ?_)
          refine lv_goto (tgt := 375) hx hb dX6_isSame_402 (by decide) ?_
          exact ih375 (kv, v + 1) H locs ls (by dsimp only; omega) ⟨hP, hD, hS, lv_sub hl [0, 1, 2, 3, 4, 5, 6, 7, 8, 9] rfl, (by omega)⟩
  · skip
    have hi : i < nw := gw_lt (by omega) (by omega) c
    obtain ⟨k, rfl⟩ : ∃ k2, k = k2 + 1 := ⟨k - 1, by omega⟩
    obtain ⟨b, hbb, hb9, hb10⟩ := hI.hwh.1 i hi
    refine lv_aload_n hx hb dX6_isSame_23 rfl (lv_at hl 4 rfl) ?_
    refine va_get (D := D) (ci := 6) (v := .ref ow) (C := RX6) (T := TX6) (N := 8) hx hb hts wc_X6_isSame_X6 hown hK hP 0 rfl rfl 4 (by decide) (hts _ wd_X6_isSame_8) (fun _ h9 => h9) rfl dX6_isSame_24 ?_
    refine lv_iload hx hb dX6_isSame_27 (lv_at hl 0 rfl) ?_
    refine gw_aldW hx hb hK hP 5 2 (k := i) (v := ad (3, i)) rfl rfl (sRf_at (by first | assumption | omega)) (Nat.lt_of_lt_of_le (by first | assumption | omega) (by omega)) (by omega) dX6_isSame_29 ?_
    refine lv_astore (lv' := [(6, .ref (ad (3, i))), (5, .int (nI i)), (4, .ref q_2), (3, .ref q_1), (2, .int acc), (0, .ref si), (1, .ref (a 0))]) hx hb dX6_isSame_30 hl (by decide) rfl (fun ls hl => ?_)
    refine gw_cut (X := Unit) (fun (zz : Unit) H locs ls => match zz with | _ => va_P D vwCl (sW si fa ob op oc ow cI cW cO (Q 0) nb nq nr (sRf ad 0 nb) (sRf ad 1 nq) (sRf ad 2 nr) (sRf ad 3 nw) (nI nw) (nI day) co ++ ((([(q_2, .inl (cI, 3, .inl upo)), (q_1, .inl (cI, 5, .inl ofB))] ++ ts) ++ gG a cI cZ Q T nb nq nw nr day nbt nqt nwt dayt co ca bo) ++ sPl nb nq nr nw ad (sEn cI (Q 1) (Q 2) (Q 3) (Q 4) (Q 5) (Q 6) (Q 7) (Q 8) (Q 9) (Q 11) (Q 12) (Q 13) ca sv rl))) H ∧ va_D A (sW si fa ob op oc ow cI cW cO (Q 0) nb nq nr (sRf ad 0 nb) (sRf ad 1 nq) (sRf ad 2 nr) (sRf ad 3 nw) (nI nw) (nI day) co ++ ((([(q_2, .inl (cI, 3, .inl upo)), (q_1, .inl (cI, 5, .inl ofB))] ++ ts) ++ gG a cI cZ Q T nb nq nw nr day nbt nqt nwt dayt co ca bo) ++ sPl nb nq nr nw ad (sEn cI (Q 1) (Q 2) (Q 3) (Q 4) (Q 5) (Q 6) (Q 7) (Q 8) (Q 9) (Q 11) (Q 12) (Q 13) ca sv rl))) ∧ va_S A s.heap H locs ∧ lv_has ls 11 [(6, .ref (ad (3, i))), (5, .int (nI i)), (4, .ref q_2), (3, .ref q_1), (2, .int (acc + (if Q 12 i = 0 then 1 else 0))), (0, .ref si), (1, .ref (a 0))] ∧ True) (fun (zz : Unit) ls => match zz with | _ => F0 m 48 ls []) (2 + i) (8 + 6 * i) (fun hK48 => ?_) ?_
    · skip
      refine lv_iload_n hx hb dX6_isSame_32 rfl (lv_at hl 4 rfl) ?_
      refine lv_aload hx hb dX6_isSame_33 (lv_at hl 0 rfl) ?_
      obtain ⟨i_60, hi_60, si_60⟩ := sAt3 (k := i) hP (by first | assumption | omega)
      refine va_get (D := D) (ci := 7) (v := .int (Q 12 i)) (C := RX7) (T := TX7) (N := 5) hx hb hts wc_X6_isSame_X7 hown hK hP i_60 hi_60 rfl 2 (by decide) (hts _ wd_X6_isSame_10) (fun _ h9 => h9) rfl dX6_isSame_35 ?_
      refine lv_if_eq (tgt := 45) hx hb dX6_isSame_38 (by decide) (fun h1 => ?_) (fun h1 => ?_)
      · skip
        refine lv_iconst (v := 1) hx hb dX6_isSame_45 (by decide) ?_
        refine lv_iadd hx hb dX6_isSame_46 ?_
        refine gw_top (y := acc + (if Q 12 i = 0 then 1 else 0)) (by first | rw [if_pos h1] | rw [if_neg h1]) ?_
        refine lv_istore_n (lv' := [(2, .int (acc + (if Q 12 i = 0 then 1 else 0))), (6, .ref (ad (3, i))), (5, .int (nI i)), (4, .ref q_2), (3, .ref q_1), (0, .ref si), (1, .ref (a 0))]) hx hb dX6_isSame_47 rfl hl (by decide) rfl (fun ls hl => ?_)
        exact hK48 () _ _ _ ⟨hP, hD, hS, lv_sub hl [1, 2, 3, 4, 0, 5, 6] rfl, trivial⟩
      · skip
        refine lv_iconst (v := 0) hx hb dX6_isSame_41 (by decide) ?_
        refine lv_goto (tgt := 46) hx hb dX6_isSame_42 (by decide) ?_
        refine lv_iadd hx hb dX6_isSame_46 ?_
        refine gw_top (y := acc + (if Q 12 i = 0 then 1 else 0)) (by first | rw [if_pos h1] | rw [if_neg h1]) ?_
        refine lv_istore_n (lv' := [(2, .int (acc + (if Q 12 i = 0 then 1 else 0))), (6, .ref (ad (3, i))), (5, .int (nI i)), (4, .ref q_2), (3, .ref q_1), (0, .ref si), (1, .ref (a 0))]) hx hb dX6_isSame_47 rfl hl (by decide) rfl (fun ls hl => ?_)
        exact hK48 () _ _ _ ⟨hP, hD, hS, lv_sub hl [1, 2, 3, 4, 0, 5, 6] rfl, trivial⟩
    · skip
      rintro - H locs ls ⟨hP, hD, hS, hl, -⟩
      have hP : va_P D vwCl (sW si fa ob op oc ow cI cW cO (Q 0) nb nq nr (sRf ad 0 nb) (sRf ad 1 nq) (sRf ad 2 nr) (sRf ad 3 nw) (nI nw) (nI day) co ++ ((([(q_2, .inl (cI, 3, .inl upo)), (q_1, .inl (cI, 5, .inl ofB))] ++ ts) ++ gG a cI cZ Q T nb nq nw nr day nbt nqt nwt dayt co ca bo) ++ sPl nb nq nr nw ad (sEn cI (Q 1) (Q 2) (Q 3) (Q 4) (Q 5) (Q 6) (Q 7) (Q 8) (Q 9) (Q 11) (Q 12) (Q 13) ca sv rl))) H := hP
      have hD : va_D A (sW si fa ob op oc ow cI cW cO (Q 0) nb nq nr (sRf ad 0 nb) (sRf ad 1 nq) (sRf ad 2 nr) (sRf ad 3 nw) (nI nw) (nI day) co ++ ((([(q_2, .inl (cI, 3, .inl upo)), (q_1, .inl (cI, 5, .inl ofB))] ++ ts) ++ gG a cI cZ Q T nb nq nw nr day nbt nqt nwt dayt co ca bo) ++ sPl nb nq nr nw ad (sEn cI (Q 1) (Q 2) (Q 3) (Q 4) (Q 5) (Q 6) (Q 7) (Q 8) (Q 9) (Q 11) (Q 12) (Q 13) ca sv rl))) := hD
      have hl : lv_has ls 11 [(6, .ref (ad (3, i))), (5, .int (nI i)), (4, .ref q_2), (3, .ref q_1), (2, .int (acc + (if Q 12 i = 0 then 1 else 0))), (0, .ref si), (1, .ref (a 0))] := hl
      refine lv_aload_n hx hb dX6_isSame_48 rfl (lv_at hl 3 rfl) ?_
      refine lv_aload hx hb dX6_isSame_49 (lv_at hl 0 rfl) ?_
      obtain ⟨i_62, hi_62, si_62⟩ := sAt3 (k := i) hP (by first | assumption | omega)
      refine va_get (D := D) (ci := 7) (v := .int (Q 9 i)) (C := RX7) (T := TX7) (N := 5) hx hb hts wc_X6_isSame_X7 hown hK hP i_62 hi_62 rfl 0 (by decide) (hts _ wd_X6_isSame_11) (fun _ h9 => h9) rfl dX6_isSame_51 ?_
      refine gw_top (y := nI b) hb9 ?_
      refine lv_dup2_11 hx hb dX6_isSame_54 rfl rfl ?_
      refine gw_iald hx hb hK hP 7 0 (k := b) rfl rfl (by omega) (by decide) dX6_isSame_55 ?_
      refine gw_cut (X := Unit) (fun (zz : Unit) H locs ls => match zz with | _ => va_P D vwCl (sW si fa ob op oc ow cI cW cO (Q 0) nb nq nr (sRf ad 0 nb) (sRf ad 1 nq) (sRf ad 2 nr) (sRf ad 3 nw) (nI nw) (nI day) co ++ ((([(q_2, .inl (cI, 3, .inl upo)), (q_1, .inl (cI, 5, .inl (upd ofB b (ofB b + (if Q 12 i = 0 then 1 else 0)))))] ++ ts) ++ gG a cI cZ Q T nb nq nw nr day nbt nqt nwt dayt co ca bo) ++ sPl nb nq nr nw ad (sEn cI (Q 1) (Q 2) (Q 3) (Q 4) (Q 5) (Q 6) (Q 7) (Q 8) (Q 9) (Q 11) (Q 12) (Q 13) ca sv rl))) H ∧ va_D A (sW si fa ob op oc ow cI cW cO (Q 0) nb nq nr (sRf ad 0 nb) (sRf ad 1 nq) (sRf ad 2 nr) (sRf ad 3 nw) (nI nw) (nI day) co ++ ((([(q_2, .inl (cI, 3, .inl upo)), (q_1, .inl (cI, 5, .inl (upd ofB b (ofB b + (if Q 12 i = 0 then 1 else 0)))))] ++ ts) ++ gG a cI cZ Q T nb nq nw nr day nbt nqt nwt dayt co ca bo) ++ sPl nb nq nr nw ad (sEn cI (Q 1) (Q 2) (Q 3) (Q 4) (Q 5) (Q 6) (Q 7) (Q 8) (Q 9) (Q 11) (Q 12) (Q 13) ca sv rl))) ∧ va_S A s.heap H locs ∧ lv_has ls 11 [(6, .ref (ad (3, i))), (5, .int (nI i)), (4, .ref q_2), (3, .ref q_1), (2, .int (acc + (if Q 12 i = 0 then 1 else 0))), (0, .ref si), (1, .ref (a 0))] ∧ True) (fun (zz : Unit) ls => match zz with | _ => F0 m 71 ls []) (2 + i) (8 + 6 * i) (fun hK71 => ?_) ?_
      · skip
        refine lv_aload hx hb dX6_isSame_56 (lv_at hl 0 rfl) ?_
        obtain ⟨i_63, hi_63, si_63⟩ := sAt3 (k := i) hP (by first | assumption | omega)
        refine va_get (D := D) (ci := 7) (v := .int (Q 12 i)) (C := RX7) (T := TX7) (N := 5) hx hb hts wc_X6_isSame_X7 hown hK hP i_63 hi_63 rfl 2 (by decide) (hts _ wd_X6_isSame_10) (fun _ h9 => h9) rfl dX6_isSame_58 ?_
        refine lv_if_eq (tgt := 68) hx hb dX6_isSame_61 (by decide) (fun h2 => ?_) (fun h2 => ?_)
        · skip
          refine lv_iconst (v := 1) hx hb dX6_isSame_68 (by decide) ?_
          refine lv_iadd hx hb dX6_isSame_69 ?_
          refine gw_top (y := ofB b + (if Q 12 i = 0 then 1 else 0)) (by first | rw [if_pos h2] | rw [if_neg h2]) ?_
          refine gw_iast hx hb hK hP hD hS 7 0 (k := b) rfl rfl (by omega) (by decide) dX6_isSame_70 (fun H locs hP hD hS => ?_)
          have hP : va_P D vwCl (sW si fa ob op oc ow cI cW cO (Q 0) nb nq nr (sRf ad 0 nb) (sRf ad 1 nq) (sRf ad 2 nr) (sRf ad 3 nw) (nI nw) (nI day) co ++ ((([(q_2, .inl (cI, 3, .inl upo)), (q_1, .inl (cI, 5, .inl (upd ofB b (ofB b + (if Q 12 i = 0 then 1 else 0)))))] ++ ts) ++ gG a cI cZ Q T nb nq nw nr day nbt nqt nwt dayt co ca bo) ++ sPl nb nq nr nw ad (sEn cI (Q 1) (Q 2) (Q 3) (Q 4) (Q 5) (Q 6) (Q 7) (Q 8) (Q 9) (Q 11) (Q 12) (Q 13) ca sv rl))) _ := hP
          have hD : va_D A (sW si fa ob op oc ow cI cW cO (Q 0) nb nq nr (sRf ad 0 nb) (sRf ad 1 nq) (sRf ad 2 nr) (sRf ad 3 nw) (nI nw) (nI day) co ++ ((([(q_2, .inl (cI, 3, .inl upo)), (q_1, .inl (cI, 5, .inl (upd ofB b (ofB b + (if Q 12 i = 0 then 1 else 0)))))] ++ ts) ++ gG a cI cZ Q T nb nq nw nr day nbt nqt nwt dayt co ca bo) ++ sPl nb nq nr nw ad (sEn cI (Q 1) (Q 2) (Q 3) (Q 4) (Q 5) (Q 6) (Q 7) (Q 8) (Q 9) (Q 11) (Q 12) (Q 13) ca sv rl))) := hD
          exact hK71 () _ _ _ ⟨hP, hD, hS, lv_sub hl [0, 1, 2, 3, 4, 5, 6] rfl, trivial⟩
        · skip
          refine lv_iconst (v := 0) hx hb dX6_isSame_64 (by decide) ?_
          refine lv_goto (tgt := 69) hx hb dX6_isSame_65 (by decide) ?_
          refine lv_iadd hx hb dX6_isSame_69 ?_
          refine gw_top (y := ofB b + (if Q 12 i = 0 then 1 else 0)) (by first | rw [if_pos h2] | rw [if_neg h2]) ?_
          refine gw_iast hx hb hK hP hD hS 7 0 (k := b) rfl rfl (by omega) (by decide) dX6_isSame_70 (fun H locs hP hD hS => ?_)
          have hP : va_P D vwCl (sW si fa ob op oc ow cI cW cO (Q 0) nb nq nr (sRf ad 0 nb) (sRf ad 1 nq) (sRf ad 2 nr) (sRf ad 3 nw) (nI nw) (nI day) co ++ ((([(q_2, .inl (cI, 3, .inl upo)), (q_1, .inl (cI, 5, .inl (upd ofB b (ofB b + (if Q 12 i = 0 then 1 else 0)))))] ++ ts) ++ gG a cI cZ Q T nb nq nw nr day nbt nqt nwt dayt co ca bo) ++ sPl nb nq nr nw ad (sEn cI (Q 1) (Q 2) (Q 3) (Q 4) (Q 5) (Q 6) (Q 7) (Q 8) (Q 9) (Q 11) (Q 12) (Q 13) ca sv rl))) _ := hP
          have hD : va_D A (sW si fa ob op oc ow cI cW cO (Q 0) nb nq nr (sRf ad 0 nb) (sRf ad 1 nq) (sRf ad 2 nr) (sRf ad 3 nw) (nI nw) (nI day) co ++ ((([(q_2, .inl (cI, 3, .inl upo)), (q_1, .inl (cI, 5, .inl (upd ofB b (ofB b + (if Q 12 i = 0 then 1 else 0)))))] ++ ts) ++ gG a cI cZ Q T nb nq nw nr day nbt nqt nwt dayt co ca bo) ++ sPl nb nq nr nw ad (sEn cI (Q 1) (Q 2) (Q 3) (Q 4) (Q 5) (Q 6) (Q 7) (Q 8) (Q 9) (Q 11) (Q 12) (Q 13) ca sv rl))) := hD
          exact hK71 () _ _ _ ⟨hP, hD, hS, lv_sub hl [0, 1, 2, 3, 4, 5, 6] rfl, trivial⟩
      · skip
        rintro - H locs ls ⟨hP, hD, hS, hl, -⟩
        have hP : va_P D vwCl (sW si fa ob op oc ow cI cW cO (Q 0) nb nq nr (sRf ad 0 nb) (sRf ad 1 nq) (sRf ad 2 nr) (sRf ad 3 nw) (nI nw) (nI day) co ++ ((([(q_2, .inl (cI, 3, .inl upo)), (q_1, .inl (cI, 5, .inl (upd ofB b (ofB b + (if Q 12 i = 0 then 1 else 0)))))] ++ ts) ++ gG a cI cZ Q T nb nq nw nr day nbt nqt nwt dayt co ca bo) ++ sPl nb nq nr nw ad (sEn cI (Q 1) (Q 2) (Q 3) (Q 4) (Q 5) (Q 6) (Q 7) (Q 8) (Q 9) (Q 11) (Q 12) (Q 13) ca sv rl))) H := hP
        have hD : va_D A (sW si fa ob op oc ow cI cW cO (Q 0) nb nq nr (sRf ad 0 nb) (sRf ad 1 nq) (sRf ad 2 nr) (sRf ad 3 nw) (nI nw) (nI day) co ++ ((([(q_2, .inl (cI, 3, .inl upo)), (q_1, .inl (cI, 5, .inl (upd ofB b (ofB b + (if Q 12 i = 0 then 1 else 0)))))] ++ ts) ++ gG a cI cZ Q T nb nq nw nr day nbt nqt nwt dayt co ca bo) ++ sPl nb nq nr nw ad (sEn cI (Q 1) (Q 2) (Q 3) (Q 4) (Q 5) (Q 6) (Q 7) (Q 8) (Q 9) (Q 11) (Q 12) (Q 13) ca sv rl))) := hD
        have hl : lv_has ls 11 [(6, .ref (ad (3, i))), (5, .int (nI i)), (4, .ref q_2), (3, .ref q_1), (2, .int (acc + (if Q 12 i = 0 then 1 else 0))), (0, .ref si), (1, .ref (a 0))] := hl
        refine gw_cut (X := (Nat → Int32)) (fun (zz : (Nat → Int32)) H locs ls => match zz with | up2 => va_P D vwCl (sW si fa ob op oc ow cI cW cO (Q 0) nb nq nr (sRf ad 0 nb) (sRf ad 1 nq) (sRf ad 2 nr) (sRf ad 3 nw) (nI nw) (nI day) co ++ ((([(q_2, .inl (cI, 3, .inl up2)), (q_1, .inl (cI, 5, .inl (upd ofB b (ofB b + (if Q 12 i = 0 then 1 else 0)))))] ++ ts) ++ gG a cI cZ Q T nb nq nw nr day nbt nqt nwt dayt co ca bo) ++ sPl nb nq nr nw ad (sEn cI (Q 1) (Q 2) (Q 3) (Q 4) (Q 5) (Q 6) (Q 7) (Q 8) (Q 9) (Q 11) (Q 12) (Q 13) ca sv rl))) H ∧ va_D A (sW si fa ob op oc ow cI cW cO (Q 0) nb nq nr (sRf ad 0 nb) (sRf ad 1 nq) (sRf ad 2 nr) (sRf ad 3 nw) (nI nw) (nI day) co ++ ((([(q_2, .inl (cI, 3, .inl up2)), (q_1, .inl (cI, 5, .inl (upd ofB b (ofB b + (if Q 12 i = 0 then 1 else 0)))))] ++ ts) ++ gG a cI cZ Q T nb nq nw nr day nbt nqt nwt dayt co ca bo) ++ sPl nb nq nr nw ad (sEn cI (Q 1) (Q 2) (Q 3) (Q 4) (Q 5) (Q 6) (Q 7) (Q 8) (Q 9) (Q 11) (Q 12) (Q 13) ca sv rl))) ∧ va_S A s.heap H locs ∧ lv_has ls 11 [(6, .ref (ad (3, i))), (5, .int (nI i)), (4, .ref q_2), (3, .ref q_1), (2, .int (acc + (if Q 12 i = 0 then 1 else 0))), (0, .ref si), (1, .ref (a 0))] ∧ (∀ r, r < 3 → up2 r = upo r + sU Q r i)) (fun (zz : (Nat → Int32)) ls => match zz with | up2 => F0 m 92 ls []) (2 + i) (8 + 6 * i) (fun hK92 => ?_) ?_
        · skip
          refine lv_aload hx hb dX6_isSame_71 (lv_at hl 0 rfl) ?_
          obtain ⟨i_65, hi_65, si_65⟩ := sAt3 (k := i) hP (by first | assumption | omega)
          refine va_get (D := D) (ci := 7) (v := .int (Q 13 i)) (C := RX7) (T := TX7) (N := 5) hx hb hts wc_X6_isSame_X7 hown hK hP i_65 hi_65 rfl 3 (by decide) (hts _ wd_X6_isSame_12) (fun _ h9 => h9) rfl dX6_isSame_73 ?_
          refine lv_iconst (v := 2) hx hb dX6_isSame_76 (by decide) ?_
          refine lv_icmp_ne (tgt := 92) hx hb dX6_isSame_77 (by decide) (fun u1 => ?_) (fun u1 => ?_)
          · skip
            exact hK92 upo _ _ _ ⟨hP, hD, hS, lv_sub hl [0, 1, 2, 3, 4, 5, 6] rfl, (ss_U0 (ss_off hX hi u1))⟩
          · skip
            obtain ⟨r0, hr0, hr14, hrl⟩ := ss_on hX hi u1
            refine lv_aload hx hb dX6_isSame_80 (lv_at hl 2 rfl) ?_
            refine lv_aload hx hb dX6_isSame_82 (lv_at hl 0 rfl) ?_
            obtain ⟨i_67, hi_67, si_67⟩ := sAt3 (k := i) hP (by first | assumption | omega)
            refine va_get (D := D) (ci := 7) (v := .int (rl i)) (C := RX7) (T := TX7) (N := 5) hx hb hts wc_X6_isSame_X7 hown hK hP i_67 hi_67 rfl 4 (by decide) (hts _ wd_X6_isSame_13) (fun _ h9 => h9) rfl dX6_isSame_84 ?_
            refine gw_top (y := nI r0) hrl ?_
            refine lv_dup2_11 hx hb dX6_isSame_87 rfl rfl ?_
            refine gw_iald hx hb hK hP 6 0 (k := r0) rfl rfl (by omega) (by decide) dX6_isSame_88 ?_
            refine lv_iconst (v := 1) hx hb dX6_isSame_89 (by decide) ?_
            refine lv_iadd hx hb dX6_isSame_90 ?_
            refine gw_iast hx hb hK hP hD hS 6 0 (k := r0) rfl rfl (by omega) (by decide) dX6_isSame_91 (fun H locs hP hD hS => ?_)
            have hP : va_P D vwCl (sW si fa ob op oc ow cI cW cO (Q 0) nb nq nr (sRf ad 0 nb) (sRf ad 1 nq) (sRf ad 2 nr) (sRf ad 3 nw) (nI nw) (nI day) co ++ ((([(q_2, .inl (cI, 3, .inl (upd upo r0 ((upo r0) + 1)))), (q_1, .inl (cI, 5, .inl (upd ofB b (ofB b + (if Q 12 i = 0 then 1 else 0)))))] ++ ts) ++ gG a cI cZ Q T nb nq nw nr day nbt nqt nwt dayt co ca bo) ++ sPl nb nq nr nw ad (sEn cI (Q 1) (Q 2) (Q 3) (Q 4) (Q 5) (Q 6) (Q 7) (Q 8) (Q 9) (Q 11) (Q 12) (Q 13) ca sv rl))) _ := hP
            have hD : va_D A (sW si fa ob op oc ow cI cW cO (Q 0) nb nq nr (sRf ad 0 nb) (sRf ad 1 nq) (sRf ad 2 nr) (sRf ad 3 nw) (nI nw) (nI day) co ++ ((([(q_2, .inl (cI, 3, .inl (upd upo r0 ((upo r0) + 1)))), (q_1, .inl (cI, 5, .inl (upd ofB b (ofB b + (if Q 12 i = 0 then 1 else 0)))))] ++ ts) ++ gG a cI cZ Q T nb nq nw nr day nbt nqt nwt dayt co ca bo) ++ sPl nb nq nr nw ad (sEn cI (Q 1) (Q 2) (Q 3) (Q 4) (Q 5) (Q 6) (Q 7) (Q 8) (Q 9) (Q 11) (Q 12) (Q 13) ca sv rl))) := hD
            exact hK92 (upd upo r0 ((upo r0) + 1)) _ _ _ ⟨hP, hD, hS, lv_sub hl [0, 1, 2, 3, 4, 5, 6] rfl, (ss_U1 (by omega) hr14)⟩
        · skip
          rintro up2 H locs ls ⟨hP, hD, hS, hl, hup⟩
          have hP : va_P D vwCl (sW si fa ob op oc ow cI cW cO (Q 0) nb nq nr (sRf ad 0 nb) (sRf ad 1 nq) (sRf ad 2 nr) (sRf ad 3 nw) (nI nw) (nI day) co ++ ((([(q_2, .inl (cI, 3, .inl up2)), (q_1, .inl (cI, 5, .inl (upd ofB b (ofB b + (if Q 12 i = 0 then 1 else 0)))))] ++ ts) ++ gG a cI cZ Q T nb nq nw nr day nbt nqt nwt dayt co ca bo) ++ sPl nb nq nr nw ad (sEn cI (Q 1) (Q 2) (Q 3) (Q 4) (Q 5) (Q 6) (Q 7) (Q 8) (Q 9) (Q 11) (Q 12) (Q 13) ca sv rl))) H := hP
          have hD : va_D A (sW si fa ob op oc ow cI cW cO (Q 0) nb nq nr (sRf ad 0 nb) (sRf ad 1 nq) (sRf ad 2 nr) (sRf ad 3 nw) (nI nw) (nI day) co ++ ((([(q_2, .inl (cI, 3, .inl up2)), (q_1, .inl (cI, 5, .inl (upd ofB b (ofB b + (if Q 12 i = 0 then 1 else 0)))))] ++ ts) ++ gG a cI cZ Q T nb nq nw nr day nbt nqt nwt dayt co ca bo) ++ sPl nb nq nr nw ad (sEn cI (Q 1) (Q 2) (Q 3) (Q 4) (Q 5) (Q 6) (Q 7) (Q 8) (Q 9) (Q 11) (Q 12) (Q 13) ca sv rl))) := hD
          have hl : lv_has ls 11 [(6, .ref (ad (3, i))), (5, .int (nI i)), (4, .ref q_2), (3, .ref q_1), (2, .int (acc + (if Q 12 i = 0 then 1 else 0))), (0, .ref si), (1, .ref (a 0))] := hl
          have hup : ∀ r, r < 3 → up2 r = upo r + sU Q r i := hup
          refine lv_bipush (v := 6) hx hb dX6_isSame_92 (by decide) ?_
          refine gw_newI hx hb (hts _ wd_X6_isSame_0) hK 0 rfl hP hD hS hA (n := 6) (N' := 6) (by decide) (by decide) (by decide) (by show _ ≤ 80; omega) (by show _ ≤ 500; omega) dX6_isSame_94 (fun q_68 H hP hD hS => ?_)
          obtain ⟨hP, hD⟩ := gPD_new hP hD
          have hP : va_P D vwCl (sW si fa ob op oc ow cI cW cO (Q 0) nb nq nr (sRf ad 0 nb) (sRf ad 1 nq) (sRf ad 2 nr) (sRf ad 3 nw) (nI nw) (nI day) co ++ ((([(q_68, .inl (cI, 6, .inl (fun _ => 0))), (q_2, .inl (cI, 3, .inl up2)), (q_1, .inl (cI, 5, .inl (upd ofB b (ofB b + (if Q 12 i = 0 then 1 else 0)))))] ++ ts) ++ gG a cI cZ Q T nb nq nw nr day nbt nqt nwt dayt co ca bo) ++ sPl nb nq nr nw ad (sEn cI (Q 1) (Q 2) (Q 3) (Q 4) (Q 5) (Q 6) (Q 7) (Q 8) (Q 9) (Q 11) (Q 12) (Q 13) ca sv rl))) _ := hP
          have hD : va_D A (sW si fa ob op oc ow cI cW cO (Q 0) nb nq nr (sRf ad 0 nb) (sRf ad 1 nq) (sRf ad 2 nr) (sRf ad 3 nw) (nI nw) (nI day) co ++ ((([(q_68, .inl (cI, 6, .inl (fun _ => 0))), (q_2, .inl (cI, 3, .inl up2)), (q_1, .inl (cI, 5, .inl (upd ofB b (ofB b + (if Q 12 i = 0 then 1 else 0)))))] ++ ts) ++ gG a cI cZ Q T nb nq nw nr day nbt nqt nwt dayt co ca bo) ++ sPl nb nq nr nw ad (sEn cI (Q 1) (Q 2) (Q 3) (Q 4) (Q 5) (Q 6) (Q 7) (Q 8) (Q 9) (Q 11) (Q 12) (Q 13) ca sv rl))) := hD
          refine W.widen (k := 3 + i) (n := 14 + 6 * i) (by omega) (by omega) ?_
          refine lv_dup hx hb dX6_isSame_96 rfl ?_
          refine lv_iconst (v := 0) hx hb dX6_isSame_97 (by decide) ?_
          refine lv_aload hx hb dX6_isSame_98 (lv_at hl 0 rfl) ?_
          obtain ⟨i_69, hi_69, si_69⟩ := sAt3 (k := i) hP (by first | assumption | omega)
          refine va_get (D := D) (ci := 7) (v := .int (Q 9 i)) (C := RX7) (T := TX7) (N := 5) hx hb hts wc_X6_isSame_X7 hown hK hP i_69 hi_69 rfl 0 (by decide) (hts _ wd_X6_isSame_11) (fun _ h9 => h9) rfl dX6_isSame_100 ?_
          refine gw_top2 (y := nI 0) rfl ?_
          refine gw_iast hx hb hK hP hD hS 6 0 (k := 0) rfl rfl (by first | decide | omega) (by decide) dX6_isSame_103 (fun H locs hP hD hS => ?_)
          have hP : va_P D vwCl (sW si fa ob op oc ow cI cW cO (Q 0) nb nq nr (sRf ad 0 nb) (sRf ad 1 nq) (sRf ad 2 nr) (sRf ad 3 nw) (nI nw) (nI day) co ++ ((([(q_68, .inl (cI, 6, .inl (upd (fun _ => 0) 0 (Q 9 i)))), (q_2, .inl (cI, 3, .inl up2)), (q_1, .inl (cI, 5, .inl (upd ofB b (ofB b + (if Q 12 i = 0 then 1 else 0)))))] ++ ts) ++ gG a cI cZ Q T nb nq nw nr day nbt nqt nwt dayt co ca bo) ++ sPl nb nq nr nw ad (sEn cI (Q 1) (Q 2) (Q 3) (Q 4) (Q 5) (Q 6) (Q 7) (Q 8) (Q 9) (Q 11) (Q 12) (Q 13) ca sv rl))) _ := hP
          have hD : va_D A (sW si fa ob op oc ow cI cW cO (Q 0) nb nq nr (sRf ad 0 nb) (sRf ad 1 nq) (sRf ad 2 nr) (sRf ad 3 nw) (nI nw) (nI day) co ++ ((([(q_68, .inl (cI, 6, .inl (upd (fun _ => 0) 0 (Q 9 i)))), (q_2, .inl (cI, 3, .inl up2)), (q_1, .inl (cI, 5, .inl (upd ofB b (ofB b + (if Q 12 i = 0 then 1 else 0)))))] ++ ts) ++ gG a cI cZ Q T nb nq nw nr day nbt nqt nwt dayt co ca bo) ++ sPl nb nq nr nw ad (sEn cI (Q 1) (Q 2) (Q 3) (Q 4) (Q 5) (Q 6) (Q 7) (Q 8) (Q 9) (Q 11) (Q 12) (Q 13) ca sv rl))) := hD
          refine lv_dup hx hb dX6_isSame_104 rfl ?_
          refine lv_iconst (v := 1) hx hb dX6_isSame_105 (by decide) ?_
          refine lv_aload hx hb dX6_isSame_106 (lv_at hl 0 rfl) ?_
          obtain ⟨i_70, hi_70, si_70⟩ := sAt3 (k := i) hP (by first | assumption | omega)
          refine va_get (D := D) (ci := 7) (v := .int (Q 11 i)) (C := RX7) (T := TX7) (N := 5) hx hb hts wc_X6_isSame_X7 hown hK hP i_70 hi_70 rfl 1 (by decide) (hts _ wd_X6_isSame_14) (fun _ h9 => h9) rfl dX6_isSame_108 ?_
          refine gw_top2 (y := nI 1) rfl ?_
          refine gw_iast hx hb hK hP hD hS 6 0 (k := 1) rfl rfl (by first | decide | omega) (by decide) dX6_isSame_111 (fun H locs hP hD hS => ?_)
          have hP : va_P D vwCl (sW si fa ob op oc ow cI cW cO (Q 0) nb nq nr (sRf ad 0 nb) (sRf ad 1 nq) (sRf ad 2 nr) (sRf ad 3 nw) (nI nw) (nI day) co ++ ((([(q_68, .inl (cI, 6, .inl (upd (upd (fun _ => 0) 0 (Q 9 i)) 1 (Q 11 i)))), (q_2, .inl (cI, 3, .inl up2)), (q_1, .inl (cI, 5, .inl (upd ofB b (ofB b + (if Q 12 i = 0 then 1 else 0)))))] ++ ts) ++ gG a cI cZ Q T nb nq nw nr day nbt nqt nwt dayt co ca bo) ++ sPl nb nq nr nw ad (sEn cI (Q 1) (Q 2) (Q 3) (Q 4) (Q 5) (Q 6) (Q 7) (Q 8) (Q 9) (Q 11) (Q 12) (Q 13) ca sv rl))) _ := hP
          have hD : va_D A (sW si fa ob op oc ow cI cW cO (Q 0) nb nq nr (sRf ad 0 nb) (sRf ad 1 nq) (sRf ad 2 nr) (sRf ad 3 nw) (nI nw) (nI day) co ++ ((([(q_68, .inl (cI, 6, .inl (upd (upd (fun _ => 0) 0 (Q 9 i)) 1 (Q 11 i)))), (q_2, .inl (cI, 3, .inl up2)), (q_1, .inl (cI, 5, .inl (upd ofB b (ofB b + (if Q 12 i = 0 then 1 else 0)))))] ++ ts) ++ gG a cI cZ Q T nb nq nw nr day nbt nqt nwt dayt co ca bo) ++ sPl nb nq nr nw ad (sEn cI (Q 1) (Q 2) (Q 3) (Q 4) (Q 5) (Q 6) (Q 7) (Q 8) (Q 9) (Q 11) (Q 12) (Q 13) ca sv rl))) := hD
          refine lv_dup hx hb dX6_isSame_112 rfl ?_
          refine lv_iconst (v := 2) hx hb dX6_isSame_113 (by decide) ?_
          refine lv_aload_n hx hb dX6_isSame_114 rfl (lv_at hl 5 rfl) ?_
          refine lv_aload hx hb dX6_isSame_115 (lv_at hl 0 rfl) ?_
          refine va_calli (va_runV (As := [.ref (ad (3, i))]) (rest := [.int 2, .ref q_68, .ref q_68]) ⟨hx, hb, hml, hown, hts⟩ (met_X6_weight l D cI cZ cW cO si fa ob op oc ow ad nb nq nr nw day co (Q 0) (Q 1) (Q 2) (Q 3) (Q 4) (Q 5) (Q 6) (Q 7) (Q 8) (Q 9) (Q 11) (Q 12) (Q 13) ca sv rl (([(q_68, .inl (cI, 6, .inl (upd (upd (fun _ => 0) 0 (Q 9 i)) 1 (Q 11 i)))), (q_2, .inl (cI, 3, .inl up2)), (q_1, .inl (cI, 5, .inl (upd ofB b (ofB b + (if Q 12 i = 0 then 1 else 0)))))] ++ ts) ++ gG a cI cZ Q T nb nq nw nr day nbt nqt nwt dayt co ca bo) i hi) (cwV 1 hts gX6_isSame_X6_weight rfl rfl rfl (by decide +kernel) ⟨Nat.le_of_ble_eq_true rfl, Nat.le_of_ble_eq_true rfl⟩) (gv_pvr hK hP 6 rfl rfl rfl) rfl rfl hl.1 rfl (lv_room (Nat.le_of_ble_eq_true rfl)) dX6_isSame_117 ⟨(by show _ ≤ 80; omega), (by show _ ≤ 500; omega)⟩) hS (fun _ _ z => z.elim) (fun _ z => z.elim) (fun r_71 _ t H1 locs ht hvm hw hB hz1 hk1 hS => ?_)
          have hP := gw_ro hP hk1
          generalize H1 = H at hP hS ⊢
          subst hw
          refine gw_top (y := 2 * Q 11 i * Q 11 i) (by rw [Int32.mul_assoc 2, Int32.mul_comm 2]) ?_
          refine gw_top2 (y := nI 2) rfl ?_
          refine gw_iast hx hb hK hP hD hS 6 0 (k := 2) rfl rfl (by first | decide | omega) (by decide) dX6_isSame_120 (fun H locs hP hD hS => ?_)
          have hP : va_P D vwCl (sW si fa ob op oc ow cI cW cO (Q 0) nb nq nr (sRf ad 0 nb) (sRf ad 1 nq) (sRf ad 2 nr) (sRf ad 3 nw) (nI nw) (nI day) co ++ ((([(q_68, .inl (cI, 6, .inl (upd (upd (upd (fun _ => 0) 0 (Q 9 i)) 1 (Q 11 i)) 2 (2 * Q 11 i * Q 11 i)))), (q_2, .inl (cI, 3, .inl up2)), (q_1, .inl (cI, 5, .inl (upd ofB b (ofB b + (if Q 12 i = 0 then 1 else 0)))))] ++ ts) ++ gG a cI cZ Q T nb nq nw nr day nbt nqt nwt dayt co ca bo) ++ sPl nb nq nr nw ad (sEn cI (Q 1) (Q 2) (Q 3) (Q 4) (Q 5) (Q 6) (Q 7) (Q 8) (Q 9) (Q 11) (Q 12) (Q 13) ca sv rl))) _ := hP
          have hD : va_D A (sW si fa ob op oc ow cI cW cO (Q 0) nb nq nr (sRf ad 0 nb) (sRf ad 1 nq) (sRf ad 2 nr) (sRf ad 3 nw) (nI nw) (nI day) co ++ ((([(q_68, .inl (cI, 6, .inl (upd (upd (upd (fun _ => 0) 0 (Q 9 i)) 1 (Q 11 i)) 2 (2 * Q 11 i * Q 11 i)))), (q_2, .inl (cI, 3, .inl up2)), (q_1, .inl (cI, 5, .inl (upd ofB b (ofB b + (if Q 12 i = 0 then 1 else 0)))))] ++ ts) ++ gG a cI cZ Q T nb nq nw nr day nbt nqt nwt dayt co ca bo) ++ sPl nb nq nr nw ad (sEn cI (Q 1) (Q 2) (Q 3) (Q 4) (Q 5) (Q 6) (Q 7) (Q 8) (Q 9) (Q 11) (Q 12) (Q 13) ca sv rl))) := hD
          refine lv_dup hx hb dX6_isSame_121 rfl ?_
          refine lv_iconst (v := 3) hx hb dX6_isSame_122 (by decide) ?_
          refine lv_aload hx hb dX6_isSame_123 (lv_at hl 0 rfl) ?_
          obtain ⟨i_72, hi_72, si_72⟩ := sAt3 (k := i) hP (by first | assumption | omega)
          refine va_get (D := D) (ci := 7) (v := .int (Q 13 i)) (C := RX7) (T := TX7) (N := 5) hx hb hts wc_X6_isSame_X7 hown hK hP i_72 hi_72 rfl 3 (by decide) (hts _ wd_X6_isSame_12) (fun _ h9 => h9) rfl dX6_isSame_125 ?_
          refine gw_top2 (y := nI 3) rfl ?_
          refine gw_iast hx hb hK hP hD hS 6 0 (k := 3) rfl rfl (by first | decide | omega) (by decide) dX6_isSame_128 (fun H locs hP hD hS => ?_)
          have hP : va_P D vwCl (sW si fa ob op oc ow cI cW cO (Q 0) nb nq nr (sRf ad 0 nb) (sRf ad 1 nq) (sRf ad 2 nr) (sRf ad 3 nw) (nI nw) (nI day) co ++ ((([(q_68, .inl (cI, 6, .inl (upd (upd (upd (upd (fun _ => 0) 0 (Q 9 i)) 1 (Q 11 i)) 2 (2 * Q 11 i * Q 11 i)) 3 (Q 13 i)))), (q_2, .inl (cI, 3, .inl up2)), (q_1, .inl (cI, 5, .inl (upd ofB b (ofB b + (if Q 12 i = 0 then 1 else 0)))))] ++ ts) ++ gG a cI cZ Q T nb nq nw nr day nbt nqt nwt dayt co ca bo) ++ sPl nb nq nr nw ad (sEn cI (Q 1) (Q 2) (Q 3) (Q 4) (Q 5) (Q 6) (Q 7) (Q 8) (Q 9) (Q 11) (Q 12) (Q 13) ca sv rl))) _ := hP
          have hD : va_D A (sW si fa ob op oc ow cI cW cO (Q 0) nb nq nr (sRf ad 0 nb) (sRf ad 1 nq) (sRf ad 2 nr) (sRf ad 3 nw) (nI nw) (nI day) co ++ ((([(q_68, .inl (cI, 6, .inl (upd (upd (upd (upd (fun _ => 0) 0 (Q 9 i)) 1 (Q 11 i)) 2 (2 * Q 11 i * Q 11 i)) 3 (Q 13 i)))), (q_2, .inl (cI, 3, .inl up2)), (q_1, .inl (cI, 5, .inl (upd ofB b (ofB b + (if Q 12 i = 0 then 1 else 0)))))] ++ ts) ++ gG a cI cZ Q T nb nq nw nr day nbt nqt nwt dayt co ca bo) ++ sPl nb nq nr nw ad (sEn cI (Q 1) (Q 2) (Q 3) (Q 4) (Q 5) (Q 6) (Q 7) (Q 8) (Q 9) (Q 11) (Q 12) (Q 13) ca sv rl))) := hD
          refine lv_dup hx hb dX6_isSame_129 rfl ?_
          refine lv_iconst (v := 4) hx hb dX6_isSame_130 (by decide) ?_
          refine lv_aload_n hx hb dX6_isSame_131 rfl (lv_at hl 5 rfl) ?_
          refine lv_aload hx hb dX6_isSame_132 (lv_at hl 0 rfl) ?_
          refine va_calli (va_runV (As := [.ref (ad (3, i))]) (rest := [.int 4, .ref q_68, .ref q_68]) ⟨hx, hb, hml, hown, hts⟩ (met_X6_worth l D cI cZ cW cO si fa ob op oc ow ad nb nq nr nw day co (Q 0) (Q 1) (Q 2) (Q 3) (Q 4) (Q 5) (Q 6) (Q 7) (Q 8) (Q 9) (Q 11) (Q 12) (Q 13) ca sv rl (([(q_68, .inl (cI, 6, .inl (upd (upd (upd (upd (fun _ => 0) 0 (Q 9 i)) 1 (Q 11 i)) 2 (2 * Q 11 i * Q 11 i)) 3 (Q 13 i)))), (q_2, .inl (cI, 3, .inl up2)), (q_1, .inl (cI, 5, .inl (upd ofB b (ofB b + (if Q 12 i = 0 then 1 else 0)))))] ++ ts) ++ gG a cI cZ Q T nb nq nw nr day nbt nqt nwt dayt co ca bo) i b hi hbb (by first | assumption | omega) hb9 (hX.e13 i hi).1) (cwV 1 hts gX6_isSame_X6_worth rfl rfl rfl (by decide +kernel) ⟨Nat.le_of_ble_eq_true rfl, Nat.le_of_ble_eq_true rfl⟩) (gv_pvr hK hP 6 rfl rfl rfl) rfl rfl hl.1 rfl (lv_room (Nat.le_of_ble_eq_true rfl)) dX6_isSame_134 ⟨(by show _ ≤ 80; omega), (by show _ ≤ 500; omega)⟩) hS (fun _ _ z => z.elim) (fun _ z => z.elim) (fun r_73 _ t H1 locs ht hvm hw hB hz1 hk1 hS => ?_)
          have hP := gw_ro hP hk1
          generalize H1 = H at hP hS ⊢
          subst hw
          refine gw_top (y := gWorth (Q 11 i) (Q 10 i) (Q 13 i) (Q 12 i)) (by rw [hb10]) ?_
          refine gw_top2 (y := nI 4) rfl ?_
          refine gw_iast hx hb hK hP hD hS 6 0 (k := 4) rfl rfl (by first | decide | omega) (by decide) dX6_isSame_137 (fun H locs hP hD hS => ?_)
          have hP : va_P D vwCl (sW si fa ob op oc ow cI cW cO (Q 0) nb nq nr (sRf ad 0 nb) (sRf ad 1 nq) (sRf ad 2 nr) (sRf ad 3 nw) (nI nw) (nI day) co ++ ((([(q_68, .inl (cI, 6, .inl (upd (upd (upd (upd (upd (fun _ => 0) 0 (Q 9 i)) 1 (Q 11 i)) 2 (2 * Q 11 i * Q 11 i)) 3 (Q 13 i)) 4 (gWorth (Q 11 i) (Q 10 i) (Q 13 i) (Q 12 i))))), (q_2, .inl (cI, 3, .inl up2)), (q_1, .inl (cI, 5, .inl (upd ofB b (ofB b + (if Q 12 i = 0 then 1 else 0)))))] ++ ts) ++ gG a cI cZ Q T nb nq nw nr day nbt nqt nwt dayt co ca bo) ++ sPl nb nq nr nw ad (sEn cI (Q 1) (Q 2) (Q 3) (Q 4) (Q 5) (Q 6) (Q 7) (Q 8) (Q 9) (Q 11) (Q 12) (Q 13) ca sv rl))) _ := hP
          have hD : va_D A (sW si fa ob op oc ow cI cW cO (Q 0) nb nq nr (sRf ad 0 nb) (sRf ad 1 nq) (sRf ad 2 nr) (sRf ad 3 nw) (nI nw) (nI day) co ++ ((([(q_68, .inl (cI, 6, .inl (upd (upd (upd (upd (upd (fun _ => 0) 0 (Q 9 i)) 1 (Q 11 i)) 2 (2 * Q 11 i * Q 11 i)) 3 (Q 13 i)) 4 (gWorth (Q 11 i) (Q 10 i) (Q 13 i) (Q 12 i))))), (q_2, .inl (cI, 3, .inl up2)), (q_1, .inl (cI, 5, .inl (upd ofB b (ofB b + (if Q 12 i = 0 then 1 else 0)))))] ++ ts) ++ gG a cI cZ Q T nb nq nw nr day nbt nqt nwt dayt co ca bo) ++ sPl nb nq nr nw ad (sEn cI (Q 1) (Q 2) (Q 3) (Q 4) (Q 5) (Q 6) (Q 7) (Q 8) (Q 9) (Q 11) (Q 12) (Q 13) ca sv rl))) := hD
          refine lv_dup hx hb dX6_isSame_138 rfl ?_
          refine lv_iconst (v := 5) hx hb dX6_isSame_139 (by decide) ?_
          refine gw_cut (X := Unit) (fun (zz : Unit) H locs ls => match zz with | _ => va_P D vwCl (sW si fa ob op oc ow cI cW cO (Q 0) nb nq nr (sRf ad 0 nb) (sRf ad 1 nq) (sRf ad 2 nr) (sRf ad 3 nw) (nI nw) (nI day) co ++ ((([(q_68, .inl (cI, 6, .inl (upd (upd (upd (upd (upd (fun _ => 0) 0 (Q 9 i)) 1 (Q 11 i)) 2 (2 * Q 11 i * Q 11 i)) 3 (Q 13 i)) 4 (gWorth (Q 11 i) (Q 10 i) (Q 13 i) (Q 12 i))))), (q_2, .inl (cI, 3, .inl up2)), (q_1, .inl (cI, 5, .inl (upd ofB b (ofB b + (if Q 12 i = 0 then 1 else 0)))))] ++ ts) ++ gG a cI cZ Q T nb nq nw nr day nbt nqt nwt dayt co ca bo) ++ sPl nb nq nr nw ad (sEn cI (Q 1) (Q 2) (Q 3) (Q 4) (Q 5) (Q 6) (Q 7) (Q 8) (Q 9) (Q 11) (Q 12) (Q 13) ca sv rl))) H ∧ va_D A (sW si fa ob op oc ow cI cW cO (Q 0) nb nq nr (sRf ad 0 nb) (sRf ad 1 nq) (sRf ad 2 nr) (sRf ad 3 nw) (nI nw) (nI day) co ++ ((([(q_68, .inl (cI, 6, .inl (upd (upd (upd (upd (upd (fun _ => 0) 0 (Q 9 i)) 1 (Q 11 i)) 2 (2 * Q 11 i * Q 11 i)) 3 (Q 13 i)) 4 (gWorth (Q 11 i) (Q 10 i) (Q 13 i) (Q 12 i))))), (q_2, .inl (cI, 3, .inl up2)), (q_1, .inl (cI, 5, .inl (upd ofB b (ofB b + (if Q 12 i = 0 then 1 else 0)))))] ++ ts) ++ gG a cI cZ Q T nb nq nw nr day nbt nqt nwt dayt co ca bo) ++ sPl nb nq nr nw ad (sEn cI (Q 1) (Q 2) (Q 3) (Q 4) (Q 5) (Q 6) (Q 7) (Q 8) (Q 9) (Q 11) (Q 12) (Q 13) ca sv rl))) ∧ va_S A s.heap H locs ∧ lv_has ls 11 [(6, .ref (ad (3, i))), (5, .int (nI i)), (4, .ref q_2), (3, .ref q_1), (2, .int (acc + (if Q 12 i = 0 then 1 else 0))), (0, .ref si), (1, .ref (a 0))] ∧ True) (fun (zz : Unit) ls => match zz with | _ => F0 m 158 ls [.int (Q 14 i), .int 5, .ref q_68, .ref q_68]) (3 + i) (14 + 6 * i) (fun hK158 => ?_) ?_
          · skip
            refine lv_aload hx hb dX6_isSame_140 (lv_at hl 0 rfl) ?_
            obtain ⟨i_74, hi_74, si_74⟩ := sAt3 (k := i) hP (by first | assumption | omega)
            refine va_get (D := D) (ci := 7) (v := .int (Q 13 i)) (C := RX7) (T := TX7) (N := 5) hx hb hts wc_X6_isSame_X7 hown hK hP i_74 hi_74 rfl 3 (by decide) (hts _ wd_X6_isSame_12) (fun _ h9 => h9) rfl dX6_isSame_142 ?_
            refine lv_iconst (v := 2) hx hb dX6_isSame_145 (by decide) ?_
            refine lv_icmp_ne (tgt := 157) hx hb dX6_isSame_146 (by decide) (fun u2 => ?_) (fun u2 => ?_)
            · skip
              refine lv_iconst (v := (-1)) hx hb dX6_isSame_157 (by decide) ?_
              refine gw_top (y := Q 14 i) (by first | exact (ss_off hX hi u2).symm | (obtain ⟨r9, h91, h92, h93⟩ := ss_on hX hi u2; rw [h92, h93])) ?_
              exact hK158 () _ _ _ ⟨hP, hD, hS, lv_sub hl [0, 1, 2, 3, 4, 5, 6] rfl, trivial⟩
            · skip
              refine lv_aload hx hb dX6_isSame_149 (lv_at hl 0 rfl) ?_
              obtain ⟨i_76, hi_76, si_76⟩ := sAt3 (k := i) hP (by first | assumption | omega)
              refine va_get (D := D) (ci := 7) (v := .int (rl i)) (C := RX7) (T := TX7) (N := 5) hx hb hts wc_X6_isSame_X7 hown hK hP i_76 hi_76 rfl 4 (by decide) (hts _ wd_X6_isSame_13) (fun _ h9 => h9) rfl dX6_isSame_151 ?_
              refine lv_goto (tgt := 158) hx hb dX6_isSame_154 (by decide) ?_
              refine gw_top (y := Q 14 i) (by first | exact (ss_off hX hi u2).symm | (obtain ⟨r9, h91, h92, h93⟩ := ss_on hX hi u2; rw [h92, h93])) ?_
              exact hK158 () _ _ _ ⟨hP, hD, hS, lv_sub hl [0, 1, 2, 3, 4, 5, 6] rfl, trivial⟩
          · skip
            rintro - H locs ls ⟨hP, hD, hS, hl, -⟩
            have hP : va_P D vwCl (sW si fa ob op oc ow cI cW cO (Q 0) nb nq nr (sRf ad 0 nb) (sRf ad 1 nq) (sRf ad 2 nr) (sRf ad 3 nw) (nI nw) (nI day) co ++ ((([(q_68, .inl (cI, 6, .inl (upd (upd (upd (upd (upd (fun _ => 0) 0 (Q 9 i)) 1 (Q 11 i)) 2 (2 * Q 11 i * Q 11 i)) 3 (Q 13 i)) 4 (gWorth (Q 11 i) (Q 10 i) (Q 13 i) (Q 12 i))))), (q_2, .inl (cI, 3, .inl up2)), (q_1, .inl (cI, 5, .inl (upd ofB b (ofB b + (if Q 12 i = 0 then 1 else 0)))))] ++ ts) ++ gG a cI cZ Q T nb nq nw nr day nbt nqt nwt dayt co ca bo) ++ sPl nb nq nr nw ad (sEn cI (Q 1) (Q 2) (Q 3) (Q 4) (Q 5) (Q 6) (Q 7) (Q 8) (Q 9) (Q 11) (Q 12) (Q 13) ca sv rl))) H := hP
            have hD : va_D A (sW si fa ob op oc ow cI cW cO (Q 0) nb nq nr (sRf ad 0 nb) (sRf ad 1 nq) (sRf ad 2 nr) (sRf ad 3 nw) (nI nw) (nI day) co ++ ((([(q_68, .inl (cI, 6, .inl (upd (upd (upd (upd (upd (fun _ => 0) 0 (Q 9 i)) 1 (Q 11 i)) 2 (2 * Q 11 i * Q 11 i)) 3 (Q 13 i)) 4 (gWorth (Q 11 i) (Q 10 i) (Q 13 i) (Q 12 i))))), (q_2, .inl (cI, 3, .inl up2)), (q_1, .inl (cI, 5, .inl (upd ofB b (ofB b + (if Q 12 i = 0 then 1 else 0)))))] ++ ts) ++ gG a cI cZ Q T nb nq nw nr day nbt nqt nwt dayt co ca bo) ++ sPl nb nq nr nw ad (sEn cI (Q 1) (Q 2) (Q 3) (Q 4) (Q 5) (Q 6) (Q 7) (Q 8) (Q 9) (Q 11) (Q 12) (Q 13) ca sv rl))) := hD
            have hl : lv_has ls 11 [(6, .ref (ad (3, i))), (5, .int (nI i)), (4, .ref q_2), (3, .ref q_1), (2, .int (acc + (if Q 12 i = 0 then 1 else 0))), (0, .ref si), (1, .ref (a 0))] := hl
            refine gw_top2 (y := nI 5) rfl ?_
            refine gw_iast hx hb hK hP hD hS 6 0 (k := 5) rfl rfl (by first | decide | omega) (by decide) dX6_isSame_158 (fun H locs hP hD hS => ?_)
            have hP : va_P D vwCl (sW si fa ob op oc ow cI cW cO (Q 0) nb nq nr (sRf ad 0 nb) (sRf ad 1 nq) (sRf ad 2 nr) (sRf ad 3 nw) (nI nw) (nI day) co ++ ((([(q_68, .inl (cI, 6, .inl (upd (upd (upd (upd (upd (upd (fun _ => 0) 0 (Q 9 i)) 1 (Q 11 i)) 2 (2 * Q 11 i * Q 11 i)) 3 (Q 13 i)) 4 (gWorth (Q 11 i) (Q 10 i) (Q 13 i) (Q 12 i))) 5 (Q 14 i)))), (q_2, .inl (cI, 3, .inl up2)), (q_1, .inl (cI, 5, .inl (upd ofB b (ofB b + (if Q 12 i = 0 then 1 else 0)))))] ++ ts) ++ gG a cI cZ Q T nb nq nw nr day nbt nqt nwt dayt co ca bo) ++ sPl nb nq nr nw ad (sEn cI (Q 1) (Q 2) (Q 3) (Q 4) (Q 5) (Q 6) (Q 7) (Q 8) (Q 9) (Q 11) (Q 12) (Q 13) ca sv rl))) _ := hP
            have hD : va_D A (sW si fa ob op oc ow cI cW cO (Q 0) nb nq nr (sRf ad 0 nb) (sRf ad 1 nq) (sRf ad 2 nr) (sRf ad 3 nw) (nI nw) (nI day) co ++ ((([(q_68, .inl (cI, 6, .inl (upd (upd (upd (upd (upd (upd (fun _ => 0) 0 (Q 9 i)) 1 (Q 11 i)) 2 (2 * Q 11 i * Q 11 i)) 3 (Q 13 i)) 4 (gWorth (Q 11 i) (Q 10 i) (Q 13 i) (Q 12 i))) 5 (Q 14 i)))), (q_2, .inl (cI, 3, .inl up2)), (q_1, .inl (cI, 5, .inl (upd ofB b (ofB b + (if Q 12 i = 0 then 1 else 0)))))] ++ ts) ++ gG a cI cZ Q T nb nq nw nr day nbt nqt nwt dayt co ca bo) ++ sPl nb nq nr nw ad (sEn cI (Q 1) (Q 2) (Q 3) (Q 4) (Q 5) (Q 6) (Q 7) (Q 8) (Q 9) (Q 11) (Q 12) (Q 13) ca sv rl))) := hD
            refine lv_astore (lv' := [(7, .ref q_68), (6, .ref (ad (3, i))), (5, .int (nI i)), (4, .ref q_2), (3, .ref q_1), (2, .int (acc + (if Q 12 i = 0 then 1 else 0))), (0, .ref si), (1, .ref (a 0))]) hx hb dX6_isSame_159 hl (by decide) rfl (fun ls hl => ?_)
            refine lv_iconst (v := 0) hx hb dX6_isSame_161 (by decide) ?_
            refine lv_istore (lv' := [(8, .int 0), (7, .ref q_68), (6, .ref (ad (3, i))), (5, .int (nI i)), (4, .ref q_2), (3, .ref q_1), (2, .int (acc + (if Q 12 i = 0 then 1 else 0))), (0, .ref si), (1, .ref (a 0))]) hx hb dX6_isSame_162 hl (by decide) rfl (fun ls hl => ?_)
            refine gw_loop (fun (zz : Nat × Nat) H locs ls => match zz with | (kv, v) => va_P D vwCl (sW si fa ob op oc ow cI cW cO (Q 0) nb nq nr (sRf ad 0 nb) (sRf ad 1 nq) (sRf ad 2 nr) (sRf ad 3 nw) (nI nw) (nI day) co ++ ((([(q_68, .inl (cI, 6, .inl (upd (upd (upd (upd (upd (upd (fun _ => 0) 0 (Q 9 i)) 1 (Q 11 i)) 2 (2 * Q 11 i * Q 11 i)) 3 (Q 13 i)) 4 (gWorth (Q 11 i) (Q 10 i) (Q 13 i) (Q 12 i))) 5 (Q 14 i)))), (q_2, .inl (cI, 3, .inl up2)), (q_1, .inl (cI, 5, .inl (upd ofB b (ofB b + (if Q 12 i = 0 then 1 else 0)))))] ++ ts) ++ gG a cI cZ Q T nb nq nw nr day nbt nqt nwt dayt co ca bo) ++ sPl nb nq nr nw ad (sEn cI (Q 1) (Q 2) (Q 3) (Q 4) (Q 5) (Q 6) (Q 7) (Q 8) (Q 9) (Q 11) (Q 12) (Q 13) ca sv rl))) H ∧ va_D A (sW si fa ob op oc ow cI cW cO (Q 0) nb nq nr (sRf ad 0 nb) (sRf ad 1 nq) (sRf ad 2 nr) (sRf ad 3 nw) (nI nw) (nI day) co ++ ((([(q_68, .inl (cI, 6, .inl (upd (upd (upd (upd (upd (upd (fun _ => 0) 0 (Q 9 i)) 1 (Q 11 i)) 2 (2 * Q 11 i * Q 11 i)) 3 (Q 13 i)) 4 (gWorth (Q 11 i) (Q 10 i) (Q 13 i) (Q 12 i))) 5 (Q 14 i)))), (q_2, .inl (cI, 3, .inl up2)), (q_1, .inl (cI, 5, .inl (upd ofB b (ofB b + (if Q 12 i = 0 then 1 else 0)))))] ++ ts) ++ gG a cI cZ Q T nb nq nw nr day nbt nqt nwt dayt co ca bo) ++ sPl nb nq nr nw ad (sEn cI (Q 1) (Q 2) (Q 3) (Q 4) (Q 5) (Q 6) (Q 7) (Q 8) (Q 9) (Q 11) (Q 12) (Q 13) ca sv rl))) ∧ va_S A s.heap H locs ∧ lv_has ls 11 [(8, .int (nI v)), (7, .ref q_68), (6, .ref (ad (3, i))), (5, .int (nI i)), (4, .ref q_2), (3, .ref q_1), (2, .int (acc + (if Q 12 i = 0 then 1 else 0))), (0, .ref si), (1, .ref (a 0))] ∧ (v + kv = 6)) (fun (zz : Nat × Nat) => match zz with | (kv, v) => kv) (6, 0) ⟨hP, hD, hS, lv_sub hl [0, 1, 2, 3, 4, 5, 6, 7, 8] rfl, (by omega)⟩ ?_
            rintro ⟨kv, v⟩ ih H locs ls ⟨hP, hD, hS, hl, hvv⟩
            have hP : va_P D vwCl (sW si fa ob op oc ow cI cW cO (Q 0) nb nq nr (sRf ad 0 nb) (sRf ad 1 nq) (sRf ad 2 nr) (sRf ad 3 nw) (nI nw) (nI day) co ++ ((([(q_68, .inl (cI, 6, .inl (upd (upd (upd (upd (upd (upd (fun _ => 0) 0 (Q 9 i)) 1 (Q 11 i)) 2 (2 * Q 11 i * Q 11 i)) 3 (Q 13 i)) 4 (gWorth (Q 11 i) (Q 10 i) (Q 13 i) (Q 12 i))) 5 (Q 14 i)))), (q_2, .inl (cI, 3, .inl up2)), (q_1, .inl (cI, 5, .inl (upd ofB b (ofB b + (if Q 12 i = 0 then 1 else 0)))))] ++ ts) ++ gG a cI cZ Q T nb nq nw nr day nbt nqt nwt dayt co ca bo) ++ sPl nb nq nr nw ad (sEn cI (Q 1) (Q 2) (Q 3) (Q 4) (Q 5) (Q 6) (Q 7) (Q 8) (Q 9) (Q 11) (Q 12) (Q 13) ca sv rl))) H := hP
            have hD : va_D A (sW si fa ob op oc ow cI cW cO (Q 0) nb nq nr (sRf ad 0 nb) (sRf ad 1 nq) (sRf ad 2 nr) (sRf ad 3 nw) (nI nw) (nI day) co ++ ((([(q_68, .inl (cI, 6, .inl (upd (upd (upd (upd (upd (upd (fun _ => 0) 0 (Q 9 i)) 1 (Q 11 i)) 2 (2 * Q 11 i * Q 11 i)) 3 (Q 13 i)) 4 (gWorth (Q 11 i) (Q 10 i) (Q 13 i) (Q 12 i))) 5 (Q 14 i)))), (q_2, .inl (cI, 3, .inl up2)), (q_1, .inl (cI, 5, .inl (upd ofB b (ofB b + (if Q 12 i = 0 then 1 else 0)))))] ++ ts) ++ gG a cI cZ Q T nb nq nw nr day nbt nqt nwt dayt co ca bo) ++ sPl nb nq nr nw ad (sEn cI (Q 1) (Q 2) (Q 3) (Q 4) (Q 5) (Q 6) (Q 7) (Q 8) (Q 9) (Q 11) (Q 12) (Q 13) ca sv rl))) := hD
            have hl : lv_has ls 11 [(8, .int (nI v)), (7, .ref q_68), (6, .ref (ad (3, i))), (5, .int (nI i)), (4, .ref q_2), (3, .ref q_1), (2, .int (acc + (if Q 12 i = 0 then 1 else 0))), (0, .ref si), (1, .ref (a 0))] := hl
            have hvv : v + kv = 6 := hvv
            have ih164 := ih
            refine lv_iload hx hb dX6_isSame_164 (lv_at hl 0 rfl) ?_
            refine lv_bipush (v := 6) hx hb dX6_isSame_166 (by decide) ?_
            refine lv_icmp_ge (tgt := 195) hx hb dX6_isSame_168 (by decide) (fun cv => ?_) (fun cv => ?_)
            · skip
              refine lv_aload hx hb dX6_isSame_195 (lv_at hl 2 rfl) ?_
              obtain ⟨i_78, hi_78, si_78⟩ := sAt3 (k := i) hP (by first | assumption | omega)
              refine va_get (D := D) (ci := 7) (v := .int (Q 13 i)) (C := RX7) (T := TX7) (N := 5) hx hb hts wc_X6_isSame_X7 hown hK hP i_78 hi_78 rfl 3 (by decide) (hts _ wd_X6_isSame_12) (fun _ h9 => h9) rfl dX6_isSame_197 ?_
              refine lv_iconst (v := 3) hx hb dX6_isSame_200 (by decide) ?_
              refine lv_icmp_ge (tgt := 253) hx hb dX6_isSame_201 (by decide) (fun rg => ?_) (fun rg => ?_)
              · skip
                refine lv_iinc (v := nI (i + 1)) (lv' := [(5, .int (nI (i + 1))), (8, .int (nI v)), (7, .ref q_68), (6, .ref (ad (3, i))), (4, .ref q_2), (3, .ref q_1), (2, .int (acc + (if Q 12 i = 0 then 1 else 0))), (0, .ref si), (1, .ref (a 0))]) hx hb dX6_isSame_253 hl (k := 3) rfl (nI_add i 1) (by decide) rfl (fun ls hl => ?_)
                refine lv_goto (tgt := 14) hx hb dX6_isSame_256 (by decide) ?_
                obtain ⟨hP, hD⟩ := gPD_drop (x := (q_68, .inl (cI, 6, .inl (upd (upd (upd (upd (upd (upd (fun _ => 0) 0 (Q 9 i)) 1 (Q 11 i)) 2 (2 * Q 11 i * Q 11 i)) 3 (Q 13 i)) 4 (gWorth (Q 11 i) (Q 10 i) (Q 13 i) (Q 12 i))) 5 (Q 14 i))))) (R := (([(q_2, .inl (cI, 3, .inl up2)), (q_1, .inl (cI, 5, .inl (upd ofB b (ofB b + (if Q 12 i = 0 then 1 else 0)))))] ++ ts) ++ gG a cI cZ Q T nb nq nw nr day nbt nqt nwt dayt co ca bo)) hP hD
                refine W.widen (k := 2 + (i + 1)) (n := 8 + 6 * (i + 1)) (by omega) (by omega) ?_
                exact ih14 (k, i + 1, acc + (if Q 12 i = 0 then 1 else 0), upd ofB b (ofB b + (if Q 12 i = 0 then 1 else 0)), up2) H locs ls (by dsimp only; omega) ⟨hP, hD, hS, lv_sub hl [0, 4, 5, 6, 7, 8] rfl, (by omega), (ss_S hF), (ss_B hb9 (by omega) hFB), (ss_U hup hFU)⟩
              · skip
                refine lv_aload_n hx hb dX6_isSame_204 rfl (lv_at hl 8 rfl) ?_
                refine lv_iload hx hb dX6_isSame_205 (lv_at hl 3 rfl) ?_
                refine va_calli (va_runV (As := [.int (nI i)]) (rest := []) ⟨hx, hb, hml, hown, hts⟩ (met_W_ring l D cI cZ cW cO a Q T nb nq nw nr day nbt nqt nwt dayt co ca bo i hi (by first | assumption | omega) (Int32.not_le.mp rg)) (cwV 1 hts gX6_isSame_X5_ring rfl rfl rfl (by decide +kernel) ⟨Nat.le_of_ble_eq_true rfl, Nat.le_of_ble_eq_true rfl⟩) (gv_pvr hK (gP_G hP) 5 rfl rfl rfl) rfl rfl hl.1 rfl (lv_room (Nat.le_of_ble_eq_true rfl)) dX6_isSame_207 ⟨(by show _ ≤ 80; omega), (by show _ ≤ 500; omega)⟩) hS (fun _ _ z => z.elim) (fun _ z => z.elim) (fun r_80 _ t H1 locs ht hvm hw hB hz1 hk1 hS => ?_)
                have hP := gw_ro hP hk1
                generalize H1 = H at hP hS ⊢
                subst hw
                refine lv_bipush (v := 50) hx hb dX6_isSame_210 (by decide) ?_
                refine lv_iconst (v := 4) hx hb dX6_isSame_212 (by decide) ?_
                refine lv_aload hx hb dX6_isSame_213 (lv_at hl 2 rfl) ?_
                obtain ⟨i_81, hi_81, si_81⟩ := sAt3 (k := i) hP (by first | assumption | omega)
                refine va_get (D := D) (ci := 7) (v := .int (Q 11 i)) (C := RX7) (T := TX7) (N := 5) hx hb hts wc_X6_isSame_X7 hown hK hP i_81 hi_81 rfl 1 (by decide) (hts _ wd_X6_isSame_14) (fun _ h9 => h9) rfl dX6_isSame_215 ?_
                refine lv_imul hx hb dX6_isSame_218 ?_
                refine lv_isub hx hb dX6_isSame_219 ?_
                refine lv_aload_n hx hb dX6_isSame_220 rfl (lv_at hl 7 rfl) ?_
                refine va_get (D := D) (ci := 6) (v := .ref ob) (C := RX6) (T := TX6) (N := 8) hx hb hts wc_X6_isSame_X6 hown hK hP 0 rfl rfl 1 (by decide) (hts _ wd_X6_isSame_4) (fun _ h9 => h9) rfl dX6_isSame_221 ?_
                refine lv_aload hx hb dX6_isSame_224 (lv_at hl 2 rfl) ?_
                obtain ⟨i_82, hi_82, si_82⟩ := sAt3 (k := i) hP (by first | assumption | omega)
                refine va_get (D := D) (ci := 7) (v := .int (Q 9 i)) (C := RX7) (T := TX7) (N := 5) hx hb hts wc_X6_isSame_X7 hown hK hP i_82 hi_82 rfl 0 (by decide) (hts _ wd_X6_isSame_11) (fun _ h9 => h9) rfl dX6_isSame_226 ?_
                refine gw_top (y := nI b) hb9 ?_
                refine gw_aldA hx hb hK hP 2 3 (k := b) (v := ad (0, b)) rfl rfl (sRf_at hbb) hbb (by omega) dX6_isSame_229 ?_
                refine lv_iconst (v := 0) hx hb dX6_isSame_230 (by decide) ?_
                obtain ⟨i_83, hi_83, si_83⟩ := sAt0 (k := b) hP hbb
                refine gw_top (y := nI 0) rfl ?_
                refine gw_iald hx hb hK hP i_83 0 (k := 0) hi_83 rfl (by first | decide | omega) (by decide) dX6_isSame_231 ?_
                refine gw_top (y := Q 1 b) rfl ?_
                refine lv_isub hx hb dX6_isSame_232 ?_
                refine lv_aload hx hb dX6_isSame_233 (lv_at hl 2 rfl) ?_
                obtain ⟨i_84, hi_84, si_84⟩ := sAt3 (k := i) hP (by first | assumption | omega)
                refine va_get (D := D) (ci := 7) (v := .int (Q 12 i)) (C := RX7) (T := TX7) (N := 5) hx hb hts wc_X6_isSame_X7 hown hK hP i_84 hi_84 rfl 2 (by decide) (hts _ wd_X6_isSame_10) (fun _ h9 => h9) rfl dX6_isSame_235 ?_
                refine lv_if_eq (tgt := 246) hx hb dX6_isSame_238 (by decide) (fun h3 => ?_) (fun h3 => ?_)
                · skip
                  refine lv_iconst (v := 0) hx hb dX6_isSame_246 (by decide) ?_
                  have hrg : 50 - 4 * Q 11 i - Q 10 i - (if Q 12 i = 0 then 0 else 9) = 50 - 4 * Q 11 i - Q 1 b - 0 := by first | rw [hb10, if_pos h3] | rw [hb10, if_neg h3]
                  refine lv_isub hx hb dX6_isSame_247 ?_
                  refine lv_icmp_eq (tgt := 253) hx hb dX6_isSame_248 (by decide) (fun c_86 => ?_) (fun c_86 => (by first | exact absurd c_86 hrg | exact absurd hrg c_86))
                  refine lv_iinc (v := nI (i + 1)) (lv' := [(5, .int (nI (i + 1))), (8, .int (nI v)), (7, .ref q_68), (6, .ref (ad (3, i))), (4, .ref q_2), (3, .ref q_1), (2, .int (acc + (if Q 12 i = 0 then 1 else 0))), (0, .ref si), (1, .ref (a 0))]) hx hb dX6_isSame_253 hl (k := 3) rfl (nI_add i 1) (by decide) rfl (fun ls hl => ?_)
                  refine lv_goto (tgt := 14) hx hb dX6_isSame_256 (by decide) ?_
                  obtain ⟨hP, hD⟩ := gPD_drop (x := (q_68, .inl (cI, 6, .inl (upd (upd (upd (upd (upd (upd (fun _ => 0) 0 (Q 9 i)) 1 (Q 11 i)) 2 (2 * Q 11 i * Q 11 i)) 3 (Q 13 i)) 4 (gWorth (Q 11 i) (Q 10 i) (Q 13 i) (Q 12 i))) 5 (Q 14 i))))) (R := (([(q_2, .inl (cI, 3, .inl up2)), (q_1, .inl (cI, 5, .inl (upd ofB b (ofB b + (if Q 12 i = 0 then 1 else 0)))))] ++ ts) ++ gG a cI cZ Q T nb nq nw nr day nbt nqt nwt dayt co ca bo)) hP hD
                  refine W.widen (k := 2 + (i + 1)) (n := 8 + 6 * (i + 1)) (by omega) (by omega) ?_
                  exact ih14 (k, i + 1, acc + (if Q 12 i = 0 then 1 else 0), upd ofB b (ofB b + (if Q 12 i = 0 then 1 else 0)), up2) H locs ls (by dsimp only; omega) ⟨hP, hD, hS, lv_sub hl [0, 4, 5, 6, 7, 8] rfl, (by omega), (ss_S hF), (ss_B hb9 (by omega) hFB), (ss_U hup hFU)⟩
                · skip
                  refine lv_bipush (v := 9) hx hb dX6_isSame_241 (by decide) ?_
                  refine lv_goto (tgt := 247) hx hb dX6_isSame_243 (by decide) ?_
                  have hrg : 50 - 4 * Q 11 i - Q 10 i - (if Q 12 i = 0 then 0 else 9) = 50 - 4 * Q 11 i - Q 1 b - 9 := by first | rw [hb10, if_pos h3] | rw [hb10, if_neg h3]
                  refine lv_isub hx hb dX6_isSame_247 ?_
                  refine lv_icmp_eq (tgt := 253) hx hb dX6_isSame_248 (by decide) (fun c_87 => ?_) (fun c_87 => (by first | exact absurd c_87 hrg | exact absurd hrg c_87))
                  refine lv_iinc (v := nI (i + 1)) (lv' := [(5, .int (nI (i + 1))), (8, .int (nI v)), (7, .ref q_68), (6, .ref (ad (3, i))), (4, .ref q_2), (3, .ref q_1), (2, .int (acc + (if Q 12 i = 0 then 1 else 0))), (0, .ref si), (1, .ref (a 0))]) hx hb dX6_isSame_253 hl (k := 3) rfl (nI_add i 1) (by decide) rfl (fun ls hl => ?_)
                  refine lv_goto (tgt := 14) hx hb dX6_isSame_256 (by decide) ?_
                  obtain ⟨hP, hD⟩ := gPD_drop (x := (q_68, .inl (cI, 6, .inl (upd (upd (upd (upd (upd (upd (fun _ => 0) 0 (Q 9 i)) 1 (Q 11 i)) 2 (2 * Q 11 i * Q 11 i)) 3 (Q 13 i)) 4 (gWorth (Q 11 i) (Q 10 i) (Q 13 i) (Q 12 i))) 5 (Q 14 i))))) (R := (([(q_2, .inl (cI, 3, .inl up2)), (q_1, .inl (cI, 5, .inl (upd ofB b (ofB b + (if Q 12 i = 0 then 1 else 0)))))] ++ ts) ++ gG a cI cZ Q T nb nq nw nr day nbt nqt nwt dayt co ca bo)) hP hD
                  refine W.widen (k := 2 + (i + 1)) (n := 8 + 6 * (i + 1)) (by omega) (by omega) ?_
                  exact ih14 (k, i + 1, acc + (if Q 12 i = 0 then 1 else 0), upd ofB b (ofB b + (if Q 12 i = 0 then 1 else 0)), up2) H locs ls (by dsimp only; omega) ⟨hP, hD, hS, lv_sub hl [0, 4, 5, 6, 7, 8] rfl, (by omega), (ss_S hF), (ss_B hb9 (by omega) hFB), (ss_U hup hFU)⟩
            · skip
              have hv : v < 6 := gw_lt (n := 6) (by omega) (by omega) cv
              obtain ⟨kv, rfl⟩ : ∃ k2, kv = k2 + 1 := ⟨kv - 1, by omega⟩
              refine lv_aload_n hx hb dX6_isSame_171 rfl (lv_at hl 8 rfl) ?_
              refine lv_iload hx hb dX6_isSame_172 (lv_at hl 3 rfl) ?_
              refine lv_iload hx hb dX6_isSame_174 (lv_at hl 0 rfl) ?_
              refine va_calli (va_runV (As := [.int (nI i), .int (nI v)]) (rest := []) ⟨hx, hb, hml, hown, hts⟩ (met_W_wheel l D cI cZ cW cO a Q T nb nq nw nr day nbt nqt nwt dayt co ca bo i v hi (by first | assumption | omega) hv) (cwV 2 hts gX6_isSame_X5_wheel rfl rfl rfl (by decide +kernel) ⟨Nat.le_of_ble_eq_true rfl, Nat.le_of_ble_eq_true rfl⟩) (gv_pvr hK (gP_G hP) 5 rfl rfl rfl) rfl rfl hl.1 rfl (lv_room (Nat.le_of_ble_eq_true rfl)) dX6_isSame_176 ⟨(by show _ ≤ 80; omega), (by show _ ≤ 500; omega)⟩) hS (fun _ _ z => z.elim) (fun _ z => z.elim) (fun r_88 _ t H1 locs ht hvm hw hB hz1 hk1 hS => ?_)
              have hP := gw_ro hP hk1
              generalize H1 = H at hP hS ⊢
              subst hw
              refine lv_aload hx hb dX6_isSame_179 (lv_at hl 1 rfl) ?_
              refine lv_iload hx hb dX6_isSame_181 (lv_at hl 0 rfl) ?_
              refine gw_iald hx hb hK hP 6 0 (k := v) rfl rfl hv (by decide) dX6_isSame_183 ?_
              refine lv_icmp_eq (tgt := 189) hx hb dX6_isSame_184 (by decide) (fun c_89 => ?_) (fun c_89 => (by first | exact absurd c_89 (sn_6 v hv).symm | exact absurd (sn_6 v hv).symm c_89))
              refine lv_iinc (v := nI (v + 1)) (lv' := [(8, .int (nI (v + 1))), (7, .ref q_68), (6, .ref (ad (3, i))), (5, .int (nI i)), (4, .ref q_2), (3, .ref q_1), (2, .int (acc + (if Q 12 i = 0 then 1 else 0))), (0, .ref si), (1, .ref (a 0))]) hx hb dX6_isSame_189 hl (k := 0) rfl (nI_add v 1) (by decide) rfl (fun ls hl => ?_)
              refine lv_goto (tgt := 164) hx hb dX6_isSame_192 (by decide) ?_
              exact ih164 (kv, v + 1) H locs ls (by dsimp only; omega) ⟨hP, hD, hS, lv_sub hl [0, 1, 2, 3, 4, 5, 6, 7, 8] rfl, (by omega)⟩
