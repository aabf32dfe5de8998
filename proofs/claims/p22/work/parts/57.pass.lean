/-! Sim.pass. -/
theorem wc_X6_pass_X6 : ∀ w ∈ u_ws RX6 TX6 8, w ∈ wsX6_pass := by decide +kernel
theorem wd_X6_pass_1 : (.fieldLink RX6 39 "GritWheelsLaw$Sim" "many" "I" : Cond) ∈ wsX6_pass := by decide +kernel
theorem wd_X6_pass_2 : (.fieldLink RX6 18 "GritWheelsLaw$Sim" "people" "[[I" : Cond) ∈ wsX6_pass := by decide +kernel
theorem wd_X6_pass_3 : (.fieldLink RX6 21 "GritWheelsLaw$Sim" "rafts" "[[I" : Cond) ∈ wsX6_pass := by decide +kernel
theorem wd_X6_pass_4 : (.fieldLink RX6 47 "GritWheelsLaw$Sim" "day" "I" : Cond) ∈ wsX6_pass := by decide +kernel
theorem wd_X6_pass_5 : (.fieldLink RX6 26 "GritWheelsLaw$Sim" "wheels" "[LGritWheelsLaw$Wheel;" : Cond) ∈ wsX6_pass := by decide +kernel
theorem wc_X6_pass_X7 : ∀ w ∈ u_ws RX7 TX7 5, w ∈ wsX6_pass := by decide +kernel
theorem wd_X6_pass_7 : (.fieldLink RX6 65 "GritWheelsLaw$Wheel" "state" "I" : Cond) ∈ wsX6_pass := by decide +kernel
theorem wd_X6_pass_8 : (.fieldLink RX6 14 "GritWheelsLaw$Sim" "beds" "[[I" : Cond) ∈ wsX6_pass := by decide +kernel
theorem wd_X6_pass_9 : (.classLink RX6 24 RX7 : Cond) ∈ wsX6_pass := by decide +kernel
theorem wd_X6_pass_10 : (.instantiable RX7 5 : Cond) ∈ wsX6_pass := by decide +kernel
theorem wd_X6_pass_11 : (.initialized RX7 : Cond) ∈ wsX6_pass := by decide +kernel
theorem wd_X6_pass_12 : (.instanceMethod yX7_init : Cond) ∈ wsX6_pass := by decide +kernel
theorem wd_X6_pass_13 : (.fieldLink RX6 51 "GritWheelsLaw$Wheel" "bed" "I" : Cond) ∈ wsX6_pass := by decide +kernel
theorem wd_X6_pass_14 : (.fieldLink RX6 54 "GritWheelsLaw$Wheel" "size" "I" : Cond) ∈ wsX6_pass := by decide +kernel
theorem wd_X6_pass_15 : (.fieldLink RX6 57 "GritWheelsLaw$Wheel" "hasCrack" "Z" : Cond) ∈ wsX6_pass := by decide +kernel
set_option maxHeartbeats 4000000 in
set_option maxRecDepth 100000 in
theorem met_X6_pass (l : Launch) (D : va_G) (cI cZ cW cO : ClassId) (si fa ob op oc ow : Nat) (ad : Nat × Nat → Nat) (nb nq nr nw day : Nat) (co : Int32) (Q : Nat → Nat → Int32) (ca sv rl : Nat → Int32) (R : va_W) (hd : day < 2 ^ 30) (hnb : nb ≤ 5) (hnq : nq ≤ 6) (hnr : nr ≤ 3) (hnw : nw ≤ 60) (hpl : gPl Q nb nq) (hgr : gGr Q nb) (hsk : gSk Q) (hdu : gDu Q) (h3 : ∀ b, b < nb → (0 : Int32) ≤ Q 3 b ∧ Q 3 b ≤ 200) (hfa : ∀ d, (0 : Int32) ≤ Q 0 d ∧ Q 0 d ≤ 9) (hsv : ∀ r, r < nr → sv r = -1 ∨ ∃ g, sv r = nI g ∧ g ≤ day) (sz : Nat) : Met l yX6_pass wsX6_pass ({ frames := 2, cells := 60, slots := 300, locals := 32 }) (gPs [.ref si] D (sW si fa ob op oc ow cI cW cO (Q 0) nb nq nr (sRf ad 0 nb) (sRf ad 1 nq) (sRf ad 2 nr) (sRf ad 3 nw) (nI nw) (nI day) co ++ (R ++ sPl nb nq nr nw ad (sEn cI (Q 1) (Q 2) (Q 3) (Q 4) (Q 5) (Q 6) (Q 7) (Q 8) (Q 9) (Q 11) (Q 12) (Q 13) ca sv rl))) (sT cI cZ cW cO) sz) (va_Qi (fun (zr : Int32) (_ : (Nat × Nat → Nat)) => zr = nI (gDay Q nq nw day).2 - nI nw) (fun (u : (Nat × Nat → Nat)) t => match u with | ad2 => va_P D vwCl (sW si fa ob op oc ow cI cW cO (Q 0) nb nq nr (sRf ad2 0 nb) (sRf ad2 1 nq) (sRf ad2 2 nr) (sRf ad2 3 ((gDay Q nq nw day).2)) (nI ((gDay Q nq nw day).2)) (nI (day + 1)) co ++ (R ++ sPl nb nq nr ((gDay Q nq nw day).2) ad2 (sEn cI ((gDay Q nq nw day).1 1) ((gDay Q nq nw day).1 2) ((gDay Q nq nw day).1 3) ((gDay Q nq nw day).1 4) ((gDay Q nq nw day).1 5) ((gDay Q nq nw day).1 6) ((gDay Q nq nw day).1 7) ((gDay Q nq nw day).1 8) ((gDay Q nq nw day).1 9) ((gDay Q nq nw day).1 11) ((gDay Q nq nw day).1 12) ((gDay Q nq nw day).1 13) ca (gM nr (gBo day sv) sv) (gM nw rl (fun _ => -1))))) t.heap ∧ va_D (va_A (sW si fa ob op oc ow cI cW cO (Q 0) nb nq nr (sRf ad 0 nb) (sRf ad 1 nq) (sRf ad 2 nr) (sRf ad 3 nw) (nI nw) (nI day) co ++ (R ++ sPl nb nq nr nw ad (sEn cI (Q 1) (Q 2) (Q 3) (Q 4) (Q 5) (Q 6) (Q 7) (Q 8) (Q 9) (Q 11) (Q 12) (Q 13) ca sv rl))) sz) (sW si fa ob op oc ow cI cW cO (Q 0) nb nq nr (sRf ad2 0 nb) (sRf ad2 1 nq) (sRf ad2 2 nr) (sRf ad2 3 ((gDay Q nq nw day).2)) (nI ((gDay Q nq nw day).2)) (nI (day + 1)) co ++ (R ++ sPl nb nq nr ((gDay Q nq nw day).2) ad2 (sEn cI ((gDay Q nq nw day).1 1) ((gDay Q nq nw day).1 2) ((gDay Q nq nw day).1 3) ((gDay Q nq nw day).1 4) ((gDay Q nq nw day).1 5) ((gDay Q nq nw day).1 6) ((gDay Q nq nw day).1 7) ((gDay Q nq nw day).1 8) ((gDay Q nq nw day).1 9) ((gDay Q nq nw day).1 11) ((gDay Q nq nw day).1 12) ((gDay Q nq nw day).1 13) ca (gM nr (gBo day sv) sv) (gM nw rl (fun _ => -1)))))) (va_A (sW si fa ob op oc ow cI cW cO (Q 0) nb nq nr (sRf ad 0 nb) (sRf ad 1 nq) (sRf ad 2 nr) (sRf ad 3 nw) (nI nw) (nI day) co ++ (R ++ sPl nb nq nr nw ad (sEn cI (Q 1) (Q 2) (Q 3) (Q 4) (Q 5) (Q 6) (Q 7) (Q 8) (Q 9) (Q 11) (Q 12) (Q 13) ca sv rl))) sz)) 60 300 (va_A (sW si fa ob op oc ow cI cW cO (Q 0) nb nq nr (sRf ad 0 nb) (sRf ad 1 nq) (sRf ad 2 nr) (sRf ad 3 nw) (nI nw) (nI day) co ++ (R ++ sPl nb nq nr nw ad (sEn cI (Q 1) (Q 2) (Q 3) (Q 4) (Q 5) (Q 6) (Q 7) (Q 8) (Q 9) (Q 11) (Q 12) (Q 13) ca sv rl))) sz) := by
  refine Met.ofW (cc := cX6_pass) (maxL := 8) (ret := (some .int)) (by decide +kernel) rfl ?_
  intro p e s m args below meth c s₁ B hml hv
  obtain ⟨rfl, hsz, hP, hK, hD0, hR⟩ := hv
  have hx := B.exec
  have hb := B.bytes
  have hr := B.returns
  have hts := atoms_spec (ws := wsX6_pass) B.pre
  have hown : s.vm.findClass RX6 = some m.cls := findClass_of_methodNamed B.named
  have hlocks := B.notSynchronized
  subst hsz
  have hD := hD0.self (sz := s.heap.size)
  generalize hAe : va_A (sW si fa ob op oc ow cI cW cO (Q 0) nb nq nr (sRf ad 0 nb) (sRf ad 1 nq) (sRf ad 2 nr) (sRf ad 3 nw) (nI nw) (nI day) co ++ (R ++ sPl nb nq nr nw ad (sEn cI (Q 1) (Q 2) (Q 3) (Q 4) (Q 5) (Q 6) (Q 7) (Q 8) (Q 9) (Q 11) (Q 12) (Q 13) ca sv rl))) s.heap.size = A at hD ⊢
  have hA : ∀ q : Nat, s.heap.size ≤ q → A q := fun q h => by rw [← hAe]; exact Or.inr h
  have hS : va_S A s.heap s.heap [] := va_S.rf
  have hP : va_P D vwCl (sW si fa ob op oc ow cI cW cO (Q 0) nb nq nr (sRf ad 0 nb) (sRf ad 1 nq) (sRf ad 2 nr) (sRf ad 3 nw) (nI nw) (nI day) co ++ (R ++ sPl nb nq nr nw ad (sEn cI (Q 1) (Q 2) (Q 3) (Q 4) (Q 5) (Q 6) (Q 7) (Q 8) (Q 9) (Q 11) (Q 12) (Q 13) ca sv rl))) s.heap := hP
  have hl := lv_entry ([.ref si]) (n := 8) (Nat.le_of_ble_eq_true rfl)
  rw [lg_entry_eq]
  generalize (lg_sl ([.ref si]) ++ List.replicate (8 - (lg_sl ([.ref si])).length) Slot.unset).toArray = ls at hl ⊢
  have hl : lv_has ls 8 [(0, .ref si)] := hl
  refine lv_aload_n hx hb dX6_pass_0 rfl (lv_at hl 0 rfl) ?_
  refine va_get (D := D) (ci := 6) (v := .int (nI nw)) (C := RX6) (T := TX6) (N := 8) hx hb hts wc_X6_pass_X6 hown hK hP 0 rfl rfl 5 (by decide) (hts _ wd_X6_pass_1) (fun _ h9 => h9) rfl dX6_pass_1 ?_
  refine lv_istore_n (lv' := [(1, .int (nI nw)), (0, .ref si)]) hx hb dX6_pass_4 rfl hl (by decide) rfl (fun ls hl => ?_)
  refine lv_aload_n hx hb dX6_pass_5 rfl (lv_at hl 1 rfl) ?_
  refine va_get (D := D) (ci := 6) (v := .ref op) (C := RX6) (T := TX6) (N := 8) hx hb hts wc_X6_pass_X6 hown hK hP 0 rfl rfl 2 (by decide) (hts _ wd_X6_pass_2) (fun _ h9 => h9) rfl dX6_pass_6 ?_
  refine lv_astore_n (lv' := [(2, .ref op), (1, .int (nI nw)), (0, .ref si)]) hx hb dX6_pass_9 rfl hl (by decide) rfl (fun ls hl => ?_)
  refine lv_aload_n hx hb dX6_pass_10 rfl (lv_at hl 0 rfl) ?_
  refine va_alen (v := nI nq) hx hb hK hP 3 3 rfl rfl rfl dX6_pass_11 ?_
  refine lv_istore_n (lv' := [(3, .int (nI nq)), (2, .ref op), (1, .int (nI nw)), (0, .ref si)]) hx hb dX6_pass_12 rfl hl (by decide) rfl (fun ls hl => ?_)
  refine lv_iconst (v := 0) hx hb dX6_pass_13 (by decide) ?_
  refine lv_istore (lv' := [(4, .int 0), (3, .int (nI nq)), (2, .ref op), (1, .int (nI nw)), (0, .ref si)]) hx hb dX6_pass_14 hl (by decide) rfl (fun ls hl => ?_)
  obtain ⟨hP, hD⟩ := sE_rl hP hD
  have hP : va_P D vwCl (sW si fa ob op oc ow cI cW cO (Q 0) nb nq nr (sRf ad 0 nb) (sRf ad 1 nq) (sRf ad 2 nr) (sRf ad 3 nw) (nI nw) (nI day) co ++ (R ++ sPl nb nq nr nw ad (sEn cI (Q 1) (Q 2) (Q 3) (Q 4) (Q 5) (Q 6) (Q 7) (Q 8) (Q 9) (Q 11) (Q 12) (Q 13) ca sv (gM nw rl (fun _ => -1))))) _ := hP
  have hD : va_D A (sW si fa ob op oc ow cI cW cO (Q 0) nb nq nr (sRf ad 0 nb) (sRf ad 1 nq) (sRf ad 2 nr) (sRf ad 3 nw) (nI nw) (nI day) co ++ (R ++ sPl nb nq nr nw ad (sEn cI (Q 1) (Q 2) (Q 3) (Q 4) (Q 5) (Q 6) (Q 7) (Q 8) (Q 9) (Q 11) (Q 12) (Q 13) ca sv (gM nw rl (fun _ => -1))))) := hD
  refine gw_loopc (fun (zz : Nat × Nat × (Nat → Nat → Int32) × Nat × (Nat × Nat → Nat)) H locs ls => match zz with | (k, i, Qi, nwi, adi) => va_P D vwCl (sW si fa ob op oc ow cI cW cO (Q 0) nb nq nr (sRf adi 0 nb) (sRf adi 1 nq) (sRf adi 2 nr) (sRf adi 3 nwi) (nI nwi) (nI day) co ++ (R ++ sPl nb nq nr nwi adi (sEn cI (Qi 1) (Qi 2) (Qi 3) (Qi 4) (Qi 5) (Qi 6) (Qi 7) (Qi 8) (Qi 9) (Qi 11) (Qi 12) (Qi 13) ca sv (gM nw rl (fun _ => -1))))) H ∧ va_D A (sW si fa ob op oc ow cI cW cO (Q 0) nb nq nr (sRf adi 0 nb) (sRf adi 1 nq) (sRf adi 2 nr) (sRf adi 3 nwi) (nI nwi) (nI day) co ++ (R ++ sPl nb nq nr nwi adi (sEn cI (Qi 1) (Qi 2) (Qi 3) (Qi 4) (Qi 5) (Qi 6) (Qi 7) (Qi 8) (Qi 9) (Qi 11) (Qi 12) (Qi 13) ca sv (gM nw rl (fun _ => -1))))) ∧ va_S A s.heap H locs ∧ lv_has ls 8 [(4, .int (nI i)), (3, .int (nI nq)), (2, .ref op), (1, .int (nI nw)), (0, .ref si)] ∧ (i + k = nq) ∧ (gCrew day k i Qi nwi = gCrew day nq 0 Q nw) ∧ (gPl Qi nb nq) ∧ (gGr Qi nb) ∧ (gSk Qi) ∧ (gDu Qi) ∧ (∀ b, b < nb → (0 : Int32) ≤ Qi 3 b ∧ Qi 3 b ≤ 200) ∧ (Qi 0 = Q 0) ∧ (nwi ≤ 60) ∧ (nw ≤ nwi)) (fun (zz : Nat × Nat × (Nat → Nat → Int32) × Nat × (Nat × Nat → Nat)) => match zz with | (k, i, Qi, nwi, adi) => k) (fun (zz : Nat × Nat × (Nat → Nat → Int32) × Nat × (Nat × Nat → Nat)) => match zz with | (k, i, Qi, nwi, adi) => 0 + (nwi - nw)) (fun (zz : Nat × Nat × (Nat → Nat → Int32) × Nat × (Nat × Nat → Nat)) => match zz with | (k, i, Qi, nwi, adi) => 0 + 5 * (nwi - nw)) (nq, 0, Q, nw, ad) (by show _ ≤ 0 + (nw - nw); omega) (by show _ ≤ 0 + 5 * (nw - nw); omega) ⟨hP, hD, hS, lv_sub hl [0, 1, 2, 3, 4] rfl, (by omega), rfl, hpl, hgr, hsk, hdu, h3, rfl, hnw, (Nat.le_refl _)⟩ ?_
  rintro ⟨k, i, Qi, nwi, adi⟩ ih H locs ls ⟨hP, hD, hS, hl, hin, hF, hpi, hgi, hsi, hdi, h3i, h0i, hnwi, hnw2⟩
  refine W.widen (k := 0 + (nwi - nw)) (n := 0 + 5 * (nwi - nw)) (Nat.le_refl _) (Nat.le_refl _) ?_
  have hP : va_P D vwCl (sW si fa ob op oc ow cI cW cO (Q 0) nb nq nr (sRf adi 0 nb) (sRf adi 1 nq) (sRf adi 2 nr) (sRf adi 3 nwi) (nI nwi) (nI day) co ++ (R ++ sPl nb nq nr nwi adi (sEn cI (Qi 1) (Qi 2) (Qi 3) (Qi 4) (Qi 5) (Qi 6) (Qi 7) (Qi 8) (Qi 9) (Qi 11) (Qi 12) (Qi 13) ca sv (gM nw rl (fun _ => -1))))) H := hP
  have hD : va_D A (sW si fa ob op oc ow cI cW cO (Q 0) nb nq nr (sRf adi 0 nb) (sRf adi 1 nq) (sRf adi 2 nr) (sRf adi 3 nwi) (nI nwi) (nI day) co ++ (R ++ sPl nb nq nr nwi adi (sEn cI (Qi 1) (Qi 2) (Qi 3) (Qi 4) (Qi 5) (Qi 6) (Qi 7) (Qi 8) (Qi 9) (Qi 11) (Qi 12) (Qi 13) ca sv (gM nw rl (fun _ => -1))))) := hD
  have hl : lv_has ls 8 [(4, .int (nI i)), (3, .int (nI nq)), (2, .ref op), (1, .int (nI nw)), (0, .ref si)] := hl
  have hin : i + k = nq := hin
  have hF : gCrew day k i Qi nwi = gCrew day nq 0 Q nw := hF
  have hpi : gPl Qi nb nq := hpi
  have hgi : gGr Qi nb := hgi
  have hsi : gSk Qi := hsi
  have hdi : gDu Qi := hdi
  have h3i : ∀ b, b < nb → (0 : Int32) ≤ Qi 3 b ∧ Qi 3 b ≤ 200 := h3i
  have h0i : Qi 0 = Q 0 := h0i
  have hnwi : nwi ≤ 60 := hnwi
  have hnw2 : nw ≤ nwi := hnw2
  have ih16 := ih
  refine lv_iload hx hb dX6_pass_16 (lv_at hl 0 rfl) ?_
  refine lv_iload_n hx hb dX6_pass_18 rfl (lv_at hl 1 rfl) ?_
  refine lv_icmp_ge (tgt := 286) hx hb dX6_pass_19 (by decide) (fun c => ?_) (fun c => ?_)
  · skip
    have hk0 : k = 0 := by have := gw_ge (by omega) (by omega) c; omega
    subst hk0
    have hie : nq = i := by omega
    subst hie
    refine lv_aload_n hx hb dX6_pass_286 rfl (lv_at hl 4 rfl) ?_
    refine va_get (D := D) (ci := 6) (v := .ref op) (C := RX6) (T := TX6) (N := 8) hx hb hts wc_X6_pass_X6 hown hK hP 0 rfl rfl 2 (by decide) (hts _ wd_X6_pass_2) (fun _ h9 => h9) rfl dX6_pass_287 ?_
    refine lv_astore_n (lv' := [(2, .ref op), (4, .int (nI nq)), (3, .int (nI nq)), (1, .int (nI nw)), (0, .ref si)]) hx hb dX6_pass_290 rfl hl (by decide) rfl (fun ls hl => ?_)
    refine lv_aload_n hx hb dX6_pass_291 rfl (lv_at hl 0 rfl) ?_
    refine va_alen (v := nI nq) hx hb hK hP 3 3 rfl rfl rfl dX6_pass_292 ?_
    refine lv_istore_n (lv' := [(3, .int (nI nq)), (2, .ref op), (4, .int (nI nq)), (1, .int (nI nw)), (0, .ref si)]) hx hb dX6_pass_293 rfl hl (by decide) rfl (fun ls hl => ?_)
    refine lv_iconst (v := 0) hx hb dX6_pass_294 (by decide) ?_
    refine lv_istore (lv' := [(4, .int 0), (3, .int (nI nq)), (2, .ref op), (1, .int (nI nw)), (0, .ref si)]) hx hb dX6_pass_295 hl (by decide) rfl (fun ls hl => ?_)
    have hP : va_P D vwCl (sW si fa ob op oc ow cI cW cO (Q 0) nb nq nr (sRf adi 0 nb) (sRf adi 1 nq) (sRf adi 2 nr) (sRf adi 3 nwi) (nI nwi) (nI day) co ++ (R ++ sPl nb nq nr nwi adi (sEn cI (Qi 1) (Qi 2) (Qi 3) (Qi 4) (Qi 5) (Qi 6) (gM 0 (fun j => gLose (Qi 6 j) (Qi 7 j)) (Qi 7)) (Qi 8) (Qi 9) (Qi 11) (Qi 12) (Qi 13) ca sv (gM nw rl (fun _ => -1))))) H := by rw [gM_0]; exact hP
    have hD : va_D A (sW si fa ob op oc ow cI cW cO (Q 0) nb nq nr (sRf adi 0 nb) (sRf adi 1 nq) (sRf adi 2 nr) (sRf adi 3 nwi) (nI nwi) (nI day) co ++ (R ++ sPl nb nq nr nwi adi (sEn cI (Qi 1) (Qi 2) (Qi 3) (Qi 4) (Qi 5) (Qi 6) (gM 0 (fun j => gLose (Qi 6 j) (Qi 7 j)) (Qi 7)) (Qi 8) (Qi 9) (Qi 11) (Qi 12) (Qi 13) ca sv (gM nw rl (fun _ => -1))))) := by rw [gM_0]; exact hD
    refine gw_loop (fun (zz : Nat × Nat) H locs ls => match zz with | (k, i2) => va_P D vwCl (sW si fa ob op oc ow cI cW cO (Q 0) nb nq nr (sRf adi 0 nb) (sRf adi 1 nq) (sRf adi 2 nr) (sRf adi 3 nwi) (nI nwi) (nI day) co ++ (R ++ sPl nb nq nr nwi adi (sEn cI (Qi 1) (Qi 2) (Qi 3) (Qi 4) (Qi 5) (Qi 6) (gM i2 (fun j => gLose (Qi 6 j) (Qi 7 j)) (Qi 7)) (Qi 8) (Qi 9) (Qi 11) (Qi 12) (Qi 13) ca sv (gM nw rl (fun _ => -1))))) H ∧ va_D A (sW si fa ob op oc ow cI cW cO (Q 0) nb nq nr (sRf adi 0 nb) (sRf adi 1 nq) (sRf adi 2 nr) (sRf adi 3 nwi) (nI nwi) (nI day) co ++ (R ++ sPl nb nq nr nwi adi (sEn cI (Qi 1) (Qi 2) (Qi 3) (Qi 4) (Qi 5) (Qi 6) (gM i2 (fun j => gLose (Qi 6 j) (Qi 7 j)) (Qi 7)) (Qi 8) (Qi 9) (Qi 11) (Qi 12) (Qi 13) ca sv (gM nw rl (fun _ => -1))))) ∧ va_S A s.heap H locs ∧ lv_has ls 8 [(4, .int (nI i2)), (3, .int (nI nq)), (2, .ref op), (1, .int (nI nw)), (0, .ref si)] ∧ (i2 + k = nq)) (fun (zz : Nat × Nat) => match zz with | (k, i2) => k) (nq, 0) ⟨hP, hD, hS, lv_sub hl [0, 1, 2, 3, 4] rfl, (by omega)⟩ ?_
    rintro ⟨k, i2⟩ ih H locs ls ⟨hP, hD, hS, hl, hin2⟩
    have hP : va_P D vwCl (sW si fa ob op oc ow cI cW cO (Q 0) nb nq nr (sRf adi 0 nb) (sRf adi 1 nq) (sRf adi 2 nr) (sRf adi 3 nwi) (nI nwi) (nI day) co ++ (R ++ sPl nb nq nr nwi adi (sEn cI (Qi 1) (Qi 2) (Qi 3) (Qi 4) (Qi 5) (Qi 6) (gM i2 (fun j => gLose (Qi 6 j) (Qi 7 j)) (Qi 7)) (Qi 8) (Qi 9) (Qi 11) (Qi 12) (Qi 13) ca sv (gM nw rl (fun _ => -1))))) H := hP
    have hD : va_D A (sW si fa ob op oc ow cI cW cO (Q 0) nb nq nr (sRf adi 0 nb) (sRf adi 1 nq) (sRf adi 2 nr) (sRf adi 3 nwi) (nI nwi) (nI day) co ++ (R ++ sPl nb nq nr nwi adi (sEn cI (Qi 1) (Qi 2) (Qi 3) (Qi 4) (Qi 5) (Qi 6) (gM i2 (fun j => gLose (Qi 6 j) (Qi 7 j)) (Qi 7)) (Qi 8) (Qi 9) (Qi 11) (Qi 12) (Qi 13) ca sv (gM nw rl (fun _ => -1))))) := hD
    have hl : lv_has ls 8 [(4, .int (nI i2)), (3, .int (nI nq)), (2, .ref op), (1, .int (nI nw)), (0, .ref si)] := hl
    have hin2 : i2 + k = nq := hin2
    have ih297 := ih
    refine lv_iload hx hb dX6_pass_297 (lv_at hl 0 rfl) ?_
    refine lv_iload_n hx hb dX6_pass_299 rfl (lv_at hl 1 rfl) ?_
    refine lv_icmp_ge (tgt := 367) hx hb dX6_pass_300 (by decide) (fun c => ?_) (fun c => ?_)
    · skip
      have hk0 : k = 0 := by have := gw_ge (by omega) (by omega) c; omega
      subst hk0
      have hie : nq = i2 := by omega
      subst hie
      refine lv_aload_n hx hb dX6_pass_367 rfl (lv_at hl 4 rfl) ?_
      refine va_calli (va_runV (As := []) (rest := []) ⟨hx, hb, hml, hown, hts⟩ (met_X6_water l D cI cZ cW cO si fa ob op oc ow adi nb nq nr nwi day co (Q 0) (Qi 1) (Qi 2) (Qi 3) (Qi 4) (Qi 5) (Qi 6) (gM nq (fun j => gLose (Qi 6 j) (Qi 7 j)) (Qi 7)) (Qi 8) (Qi 9) (Qi 11) (Qi 12) (Qi 13) ca sv (gM nw rl (fun _ => -1)) R (by first | assumption | omega)) (cwV 0 hts gX6_pass_X6_water rfl rfl rfl (by decide +kernel) ⟨Nat.le_of_ble_eq_true rfl, Nat.le_of_ble_eq_true rfl⟩) (gv_pvr hK hP 6 rfl rfl rfl) rfl rfl hl.1 rfl (lv_room (Nat.le_of_ble_eq_true rfl)) dX6_pass_368 ⟨(by show _ ≤ 60; omega), (by show _ ≤ 300; omega)⟩) hS (fun _ _ z => z.elim) (fun _ z => z.elim) (fun r_3 _ t H1 locs ht hvm hw hB hz1 hk1 hS => ?_)
      have hP := gw_ro hP hk1
      generalize H1 = H at hP hS ⊢
      subst hw
      refine gw_cut (X := Unit) (fun (zz : Unit) H locs ls => match zz with | _ => va_P D vwCl (sW si fa ob op oc ow cI cW cO (Q 0) nb nq nr (sRf adi 0 nb) (sRf adi 1 nq) (sRf adi 2 nr) (sRf adi 3 nwi) (nI nwi) (nI day) co ++ (R ++ sPl nb nq nr nwi adi (sEn cI (Qi 1) (Qi 2) (Qi 3) (Qi 4) (Qi 5) (Qi 6) (gM nq (fun j => gLose (Qi 6 j) (Qi 7 j)) (Qi 7)) (Qi 8) (Qi 9) (Qi 11) (Qi 12) (Qi 13) ca sv (gM nw rl (fun _ => -1))))) H ∧ va_D A (sW si fa ob op oc ow cI cW cO (Q 0) nb nq nr (sRf adi 0 nb) (sRf adi 1 nq) (sRf adi 2 nr) (sRf adi 3 nwi) (nI nwi) (nI day) co ++ (R ++ sPl nb nq nr nwi adi (sEn cI (Qi 1) (Qi 2) (Qi 3) (Qi 4) (Qi 5) (Qi 6) (gM nq (fun j => gLose (Qi 6 j) (Qi 7 j)) (Qi 7)) (Qi 8) (Qi 9) (Qi 11) (Qi 12) (Qi 13) ca sv (gM nw rl (fun _ => -1))))) ∧ va_S A s.heap H locs ∧ lv_has ls 8 [(4, .int (nI nq)), (3, .int (nI nq)), (2, .ref op), (1, .int (nI nw)), (0, .ref si)] ∧ True) (fun (zz : Unit) ls => match zz with | _ => F0 m 385 ls [.int (gDr (Q 0 (day % 9)))]) (0 + (nwi - nw)) (0 + 5 * (nwi - nw)) (fun hK385 => ?_) ?_
      · skip
        refine lv_iconst (v := 3) hx hb dX6_pass_371 (by decide) ?_
        refine lv_icmp_ge (tgt := 379) hx hb dX6_pass_372 (by decide) (fun f1 => ?_) (fun f1 => ?_)
        · skip
          refine lv_aload_n hx hb dX6_pass_379 rfl (lv_at hl 4 rfl) ?_
          refine va_calli (va_runV (As := []) (rest := []) ⟨hx, hb, hml, hown, hts⟩ (met_X6_water l D cI cZ cW cO si fa ob op oc ow adi nb nq nr nwi day co (Q 0) (Qi 1) (Qi 2) (Qi 3) (Qi 4) (Qi 5) (Qi 6) (gM nq (fun j => gLose (Qi 6 j) (Qi 7 j)) (Qi 7)) (Qi 8) (Qi 9) (Qi 11) (Qi 12) (Qi 13) ca sv (gM nw rl (fun _ => -1)) R (by first | assumption | omega)) (cwV 0 hts gX6_pass_X6_water rfl rfl rfl (by decide +kernel) ⟨Nat.le_of_ble_eq_true rfl, Nat.le_of_ble_eq_true rfl⟩) (gv_pvr hK hP 6 rfl rfl rfl) rfl rfl hl.1 rfl (lv_room (Nat.le_of_ble_eq_true rfl)) dX6_pass_380 ⟨(by show _ ≤ 60; omega), (by show _ ≤ 300; omega)⟩) hS (fun _ _ z => z.elim) (fun _ z => z.elim) (fun r_5 _ t H1 locs ht hvm hw hB hz1 hk1 hS => ?_)
          have hP := gw_ro hP hk1
          generalize H1 = H at hP hS ⊢
          subst hw
          refine lv_iconst (v := 2) hx hb dX6_pass_383 (by decide) ?_
          refine lv_idiv hx hb dX6_pass_384 (by decide) ?_
          refine gw_top (y := gDr (Q 0 (day % 9))) (by first | exact sp_dr1 f1 | exact sp_dr2 f1) ?_
          exact hK385 () _ _ _ ⟨hP, hD, hS, lv_sub hl [0, 1, 2, 3, 4] rfl, trivial⟩
        · skip
          refine lv_iconst (v := 0) hx hb dX6_pass_375 (by decide) ?_
          refine lv_goto (tgt := 385) hx hb dX6_pass_376 (by decide) ?_
          refine gw_top (y := gDr (Q 0 (day % 9))) (by first | exact sp_dr1 f1 | exact sp_dr2 f1) ?_
          exact hK385 () _ _ _ ⟨hP, hD, hS, lv_sub hl [0, 1, 2, 3, 4] rfl, trivial⟩
      · skip
        rintro - H locs ls ⟨hP, hD, hS, hl, -⟩
        have hP : va_P D vwCl (sW si fa ob op oc ow cI cW cO (Q 0) nb nq nr (sRf adi 0 nb) (sRf adi 1 nq) (sRf adi 2 nr) (sRf adi 3 nwi) (nI nwi) (nI day) co ++ (R ++ sPl nb nq nr nwi adi (sEn cI (Qi 1) (Qi 2) (Qi 3) (Qi 4) (Qi 5) (Qi 6) (gM nq (fun j => gLose (Qi 6 j) (Qi 7 j)) (Qi 7)) (Qi 8) (Qi 9) (Qi 11) (Qi 12) (Qi 13) ca sv (gM nw rl (fun _ => -1))))) H := hP
        have hD : va_D A (sW si fa ob op oc ow cI cW cO (Q 0) nb nq nr (sRf adi 0 nb) (sRf adi 1 nq) (sRf adi 2 nr) (sRf adi 3 nwi) (nI nwi) (nI day) co ++ (R ++ sPl nb nq nr nwi adi (sEn cI (Qi 1) (Qi 2) (Qi 3) (Qi 4) (Qi 5) (Qi 6) (gM nq (fun j => gLose (Qi 6 j) (Qi 7 j)) (Qi 7)) (Qi 8) (Qi 9) (Qi 11) (Qi 12) (Qi 13) ca sv (gM nw rl (fun _ => -1))))) := hD
        have hl : lv_has ls 8 [(4, .int (nI nq)), (3, .int (nI nq)), (2, .ref op), (1, .int (nI nw)), (0, .ref si)] := hl
        obtain ⟨m, hm9, hm⟩ := sp_dr (hfa (day % 9))
        refine gw_top (y := nI m) hm ?_
        refine lv_istore_n (lv' := [(2, .int (nI m)), (4, .int (nI nq)), (3, .int (nI nq)), (1, .int (nI nw)), (0, .ref si)]) hx hb dX6_pass_385 rfl hl (by decide) rfl (fun ls hl => ?_)
        refine lv_iconst (v := 0) hx hb dX6_pass_386 (by decide) ?_
        refine lv_istore_n (lv' := [(3, .int 0), (2, .int (nI m)), (4, .int (nI nq)), (1, .int (nI nw)), (0, .ref si)]) hx hb dX6_pass_387 rfl hl (by decide) rfl (fun ls hl => ?_)
        refine gw_loop (fun (zz : Nat × Nat × Nat × (Nat → Int32)) H locs ls => match zz with | (k, i3, m3, st3) => va_P D vwCl (sW si fa ob op oc ow cI cW cO (Q 0) nb nq nr (sRf adi 0 nb) (sRf adi 1 nq) (sRf adi 2 nr) (sRf adi 3 nwi) (nI nwi) (nI day) co ++ (R ++ sPl nb nq nr nwi adi (sEn cI (Qi 1) (Qi 2) (Qi 3) (Qi 4) (Qi 5) (Qi 6) (gM nq (fun j => gLose (Qi 6 j) (Qi 7 j)) (Qi 7)) (Qi 8) (Qi 9) (Qi 11) (Qi 12) st3 ca sv (gM nw rl (fun _ => -1))))) H ∧ va_D A (sW si fa ob op oc ow cI cW cO (Q 0) nb nq nr (sRf adi 0 nb) (sRf adi 1 nq) (sRf adi 2 nr) (sRf adi 3 nwi) (nI nwi) (nI day) co ++ (R ++ sPl nb nq nr nwi adi (sEn cI (Qi 1) (Qi 2) (Qi 3) (Qi 4) (Qi 5) (Qi 6) (gM nq (fun j => gLose (Qi 6 j) (Qi 7 j)) (Qi 7)) (Qi 8) (Qi 9) (Qi 11) (Qi 12) st3 ca sv (gM nw rl (fun _ => -1))))) ∧ va_S A s.heap H locs ∧ lv_has ls 8 [(3, .int (nI i3)), (2, .int (nI m3)), (1, .int (nI nw)), (0, .ref si)] ∧ (i3 + k = nwi) ∧ (gDress k i3 (nI m3) st3 = gDress nwi 0 (nI m) (Qi 13)) ∧ (m3 ≤ 9)) (fun (zz : Nat × Nat × Nat × (Nat → Int32)) => match zz with | (k, i3, m3, st3) => k) (nwi, 0, m, Qi 13) ⟨hP, hD, hS, lv_sub hl [0, 1, 3, 4] rfl, (by omega), rfl, hm9⟩ ?_
        rintro ⟨k, i3, m3, st3⟩ ih H locs ls ⟨hP, hD, hS, hl, hin3, hF3, hm3⟩
        have hP : va_P D vwCl (sW si fa ob op oc ow cI cW cO (Q 0) nb nq nr (sRf adi 0 nb) (sRf adi 1 nq) (sRf adi 2 nr) (sRf adi 3 nwi) (nI nwi) (nI day) co ++ (R ++ sPl nb nq nr nwi adi (sEn cI (Qi 1) (Qi 2) (Qi 3) (Qi 4) (Qi 5) (Qi 6) (gM nq (fun j => gLose (Qi 6 j) (Qi 7 j)) (Qi 7)) (Qi 8) (Qi 9) (Qi 11) (Qi 12) st3 ca sv (gM nw rl (fun _ => -1))))) H := hP
        have hD : va_D A (sW si fa ob op oc ow cI cW cO (Q 0) nb nq nr (sRf adi 0 nb) (sRf adi 1 nq) (sRf adi 2 nr) (sRf adi 3 nwi) (nI nwi) (nI day) co ++ (R ++ sPl nb nq nr nwi adi (sEn cI (Qi 1) (Qi 2) (Qi 3) (Qi 4) (Qi 5) (Qi 6) (gM nq (fun j => gLose (Qi 6 j) (Qi 7 j)) (Qi 7)) (Qi 8) (Qi 9) (Qi 11) (Qi 12) st3 ca sv (gM nw rl (fun _ => -1))))) := hD
        have hl : lv_has ls 8 [(3, .int (nI i3)), (2, .int (nI m3)), (1, .int (nI nw)), (0, .ref si)] := hl
        have hin3 : i3 + k = nwi := hin3
        have hF3 : gDress k i3 (nI m3) st3 = gDress nwi 0 (nI m) (Qi 13) := hF3
        have hm3 : m3 ≤ 9 := hm3
        have ih388 := ih
        refine lv_iload_n hx hb dX6_pass_388 rfl (lv_at hl 0 rfl) ?_
        refine lv_aload_n hx hb dX6_pass_389 rfl (lv_at hl 3 rfl) ?_
        refine va_get (D := D) (ci := 6) (v := .int (nI nwi)) (C := RX6) (T := TX6) (N := 8) hx hb hts wc_X6_pass_X6 hown hK hP 0 rfl rfl 5 (by decide) (hts _ wd_X6_pass_1) (fun _ h9 => h9) rfl dX6_pass_390 ?_
        refine lv_icmp_ge (tgt := 434) hx hb dX6_pass_393 (by decide) (fun c => ?_) (fun c => ?_)
        · skip
          have hk0 : k = 0 := by have := gw_ge (by omega) (by omega) c; omega
          subst hk0
          refine lv_aload_n hx hb dX6_pass_434 rfl (lv_at hl 3 rfl) ?_
          refine va_get (D := D) (ci := 6) (v := .ref oc) (C := RX6) (T := TX6) (N := 8) hx hb hts wc_X6_pass_X6 hown hK hP 0 rfl rfl 3 (by decide) (hts _ wd_X6_pass_3) (fun _ h9 => h9) rfl dX6_pass_435 ?_
          refine lv_astore_n (lv' := [(3, .ref oc), (2, .int (nI m3)), (1, .int (nI nw)), (0, .ref si)]) hx hb dX6_pass_438 rfl hl (by decide) rfl (fun ls hl => ?_)
          refine lv_aload_n hx hb dX6_pass_439 rfl (lv_at hl 0 rfl) ?_
          refine va_alen (v := nI nr) hx hb hK hP 4 3 rfl rfl rfl dX6_pass_440 ?_
          refine lv_istore (lv' := [(4, .int (nI nr)), (3, .ref oc), (2, .int (nI m3)), (1, .int (nI nw)), (0, .ref si)]) hx hb dX6_pass_441 hl (by decide) rfl (fun ls hl => ?_)
          refine lv_iconst (v := 0) hx hb dX6_pass_443 (by decide) ?_
          refine lv_istore (lv' := [(5, .int 0), (4, .int (nI nr)), (3, .ref oc), (2, .int (nI m3)), (1, .int (nI nw)), (0, .ref si)]) hx hb dX6_pass_444 hl (by decide) rfl (fun ls hl => ?_)
          have hP : va_P D vwCl (sW si fa ob op oc ow cI cW cO (Q 0) nb nq nr (sRf adi 0 nb) (sRf adi 1 nq) (sRf adi 2 nr) (sRf adi 3 nwi) (nI nwi) (nI day) co ++ (R ++ sPl nb nq nr nwi adi (sEn cI (Qi 1) (Qi 2) (Qi 3) (Qi 4) (Qi 5) (Qi 6) (gM nq (fun j => gLose (Qi 6 j) (Qi 7 j)) (Qi 7)) (Qi 8) (Qi 9) (Qi 11) (Qi 12) st3 ca (gM 0 (gBo day sv) sv) (gM nw rl (fun _ => -1))))) H := by rw [gM_0]; exact hP
          have hD : va_D A (sW si fa ob op oc ow cI cW cO (Q 0) nb nq nr (sRf adi 0 nb) (sRf adi 1 nq) (sRf adi 2 nr) (sRf adi 3 nwi) (nI nwi) (nI day) co ++ (R ++ sPl nb nq nr nwi adi (sEn cI (Qi 1) (Qi 2) (Qi 3) (Qi 4) (Qi 5) (Qi 6) (gM nq (fun j => gLose (Qi 6 j) (Qi 7 j)) (Qi 7)) (Qi 8) (Qi 9) (Qi 11) (Qi 12) st3 ca (gM 0 (gBo day sv) sv) (gM nw rl (fun _ => -1))))) := by rw [gM_0]; exact hD
          refine gw_loop (fun (zz : Nat × Nat) H locs ls => match zz with | (k, i4) => va_P D vwCl (sW si fa ob op oc ow cI cW cO (Q 0) nb nq nr (sRf adi 0 nb) (sRf adi 1 nq) (sRf adi 2 nr) (sRf adi 3 nwi) (nI nwi) (nI day) co ++ (R ++ sPl nb nq nr nwi adi (sEn cI (Qi 1) (Qi 2) (Qi 3) (Qi 4) (Qi 5) (Qi 6) (gM nq (fun j => gLose (Qi 6 j) (Qi 7 j)) (Qi 7)) (Qi 8) (Qi 9) (Qi 11) (Qi 12) st3 ca (gM i4 (gBo day sv) sv) (gM nw rl (fun _ => -1))))) H ∧ va_D A (sW si fa ob op oc ow cI cW cO (Q 0) nb nq nr (sRf adi 0 nb) (sRf adi 1 nq) (sRf adi 2 nr) (sRf adi 3 nwi) (nI nwi) (nI day) co ++ (R ++ sPl nb nq nr nwi adi (sEn cI (Qi 1) (Qi 2) (Qi 3) (Qi 4) (Qi 5) (Qi 6) (gM nq (fun j => gLose (Qi 6 j) (Qi 7 j)) (Qi 7)) (Qi 8) (Qi 9) (Qi 11) (Qi 12) st3 ca (gM i4 (gBo day sv) sv) (gM nw rl (fun _ => -1))))) ∧ va_S A s.heap H locs ∧ lv_has ls 8 [(5, .int (nI i4)), (4, .int (nI nr)), (3, .ref oc), (2, .int (nI m3)), (1, .int (nI nw)), (0, .ref si)] ∧ (i4 + k = nr)) (fun (zz : Nat × Nat) => match zz with | (k, i4) => k) (nr, 0) ⟨hP, hD, hS, lv_sub hl [0, 1, 2, 3, 4, 5] rfl, (by omega)⟩ ?_
          rintro ⟨k, i4⟩ ih H locs ls ⟨hP, hD, hS, hl, hin4⟩
          have hP : va_P D vwCl (sW si fa ob op oc ow cI cW cO (Q 0) nb nq nr (sRf adi 0 nb) (sRf adi 1 nq) (sRf adi 2 nr) (sRf adi 3 nwi) (nI nwi) (nI day) co ++ (R ++ sPl nb nq nr nwi adi (sEn cI (Qi 1) (Qi 2) (Qi 3) (Qi 4) (Qi 5) (Qi 6) (gM nq (fun j => gLose (Qi 6 j) (Qi 7 j)) (Qi 7)) (Qi 8) (Qi 9) (Qi 11) (Qi 12) st3 ca (gM i4 (gBo day sv) sv) (gM nw rl (fun _ => -1))))) H := hP
          have hD : va_D A (sW si fa ob op oc ow cI cW cO (Q 0) nb nq nr (sRf adi 0 nb) (sRf adi 1 nq) (sRf adi 2 nr) (sRf adi 3 nwi) (nI nwi) (nI day) co ++ (R ++ sPl nb nq nr nwi adi (sEn cI (Qi 1) (Qi 2) (Qi 3) (Qi 4) (Qi 5) (Qi 6) (gM nq (fun j => gLose (Qi 6 j) (Qi 7 j)) (Qi 7)) (Qi 8) (Qi 9) (Qi 11) (Qi 12) st3 ca (gM i4 (gBo day sv) sv) (gM nw rl (fun _ => -1))))) := hD
          have hl : lv_has ls 8 [(5, .int (nI i4)), (4, .int (nI nr)), (3, .ref oc), (2, .int (nI m3)), (1, .int (nI nw)), (0, .ref si)] := hl
          have hin4 : i4 + k = nr := hin4
          have ih446 := ih
          refine lv_iload hx hb dX6_pass_446 (lv_at hl 0 rfl) ?_
          refine lv_iload hx hb dX6_pass_448 (lv_at hl 1 rfl) ?_
          refine lv_icmp_ge (tgt := 490) hx hb dX6_pass_450 (by decide) (fun c => ?_) (fun c => ?_)
          · skip
            have hk0 : k = 0 := by have := gw_ge (by omega) (by omega) c; omega
            subst hk0
            have hie : nr = i4 := by omega
            subst hie
            refine lv_aload_n hx hb dX6_pass_490 rfl (lv_at hl 5 rfl) ?_
            refine lv_dup hx hb dX6_pass_491 rfl ?_
            refine va_get (D := D) (ci := 6) (v := .int (nI day)) (C := RX6) (T := TX6) (N := 8) hx hb hts wc_X6_pass_X6 hown hK hP 0 rfl rfl 6 (by decide) (hts _ wd_X6_pass_4) (fun _ h9 => h9) rfl dX6_pass_492 ?_
            refine lv_iconst (v := 1) hx hb dX6_pass_495 (by decide) ?_
            refine lv_iadd hx hb dX6_pass_496 ?_
            refine gw_top (y := nI (day + 1)) (nI_add day 1) ?_
            refine va_put (D := D) (ci := 6) (v := .int (nI (day + 1))) (ty := .int) (C := RX6) (T := TX6) (N := 8) hx hb hts wc_X6_pass_X6 tyX6 tyX6_ok nmX6 hown hK hP hD hS 0 rfl rfl 6 (by decide) (hts _ wd_X6_pass_4) (fun _ h9 => h9) rfl (by decide +kernel) rfl rfl (Nat.le_of_ble_eq_true rfl) dX6_pass_497 (fun H locs hP hD hS => ?_)
            have hP : va_P D vwCl (sW si fa ob op oc ow cI cW cO (Q 0) nb nq nr (sRf adi 0 nb) (sRf adi 1 nq) (sRf adi 2 nr) (sRf adi 3 nwi) (nI nwi) (nI (day + 1)) co ++ (R ++ sPl nb nq nr nwi adi (sEn cI (Qi 1) (Qi 2) (Qi 3) (Qi 4) (Qi 5) (Qi 6) (gM nq (fun j => gLose (Qi 6 j) (Qi 7 j)) (Qi 7)) (Qi 8) (Qi 9) (Qi 11) (Qi 12) st3 ca (gM nr (gBo day sv) sv) (gM nw rl (fun _ => -1))))) _ := hP
            have hD : va_D A (sW si fa ob op oc ow cI cW cO (Q 0) nb nq nr (sRf adi 0 nb) (sRf adi 1 nq) (sRf adi 2 nr) (sRf adi 3 nwi) (nI nwi) (nI (day + 1)) co ++ (R ++ sPl nb nq nr nwi adi (sEn cI (Qi 1) (Qi 2) (Qi 3) (Qi 4) (Qi 5) (Qi 6) (gM nq (fun j => gLose (Qi 6 j) (Qi 7 j)) (Qi 7)) (Qi 8) (Qi 9) (Qi 11) (Qi 12) st3 ca (gM nr (gBo day sv) sv) (gM nw rl (fun _ => -1))))) := hD
            refine lv_aload_n hx hb dX6_pass_500 rfl (lv_at hl 5 rfl) ?_
            refine va_get (D := D) (ci := 6) (v := .int (nI nwi)) (C := RX6) (T := TX6) (N := 8) hx hb hts wc_X6_pass_X6 hown hK hP 0 rfl rfl 5 (by decide) (hts _ wd_X6_pass_1) (fun _ h9 => h9) rfl dX6_pass_501 ?_
            refine lv_iload_n hx hb dX6_pass_504 rfl (lv_at hl 4 rfl) ?_
            refine lv_isub hx hb dX6_pass_505 ?_
            have hF : (Qi, nwi) = gCrew day nq 0 Q nw := hF
            have hF3 : st3 = gDress nwi 0 (nI m) (Qi 13) := hF3
            obtain ⟨rfl, rfl⟩ : Qi = (gCrew day nq 0 Q nw).1 ∧ nwi = (gCrew day nq 0 Q nw).2 := by rw [← hF]; exact ⟨rfl, rfl⟩
            have h13 : st3 = (gDay Q nq nw day).1 13 := gEve_13 (nq := nq) h0i (by rw [hm]; exact hF3)
            rw [h13] at hP hD
            refine W.widen (k := 60) (n := 300) (by omega) (by omega) ?_
            exact W.iret (v := nI (gDay Q nq nw day).2 - nI nw) hx hb hr (fun t ht hW => ⟨⟨_, (adi), rfl, rfl, ⟨gw_hh ht hP, hD⟩⟩, hS.F ht⟩) hS.2.2 dX6_pass_506
          · skip
            have hi : i4 < nr := gw_lt (by omega) (by omega) c
            obtain ⟨k, rfl⟩ : ∃ k2, k = k2 + 1 := ⟨k - 1, by omega⟩
            refine lv_aload_n hx hb dX6_pass_453 rfl (lv_at hl 2 rfl) ?_
            refine lv_iload hx hb dX6_pass_454 (lv_at hl 0 rfl) ?_
            refine gw_aldA hx hb hK hP 4 3 (k := i4) (v := adi (2, i4)) rfl rfl (sRf_at (by first | assumption | omega)) (by first | assumption | omega) (by omega) dX6_pass_456 ?_
            refine lv_astore (lv' := [(6, .ref (adi (2, i4))), (5, .int (nI i4)), (4, .int (nI nr)), (3, .ref oc), (2, .int (nI m3)), (1, .int (nI nw)), (0, .ref si)]) hx hb dX6_pass_457 hl (by decide) rfl (fun ls hl => ?_)
            refine lv_aload hx hb dX6_pass_459 (lv_at hl 0 rfl) ?_
            refine lv_iconst (v := 1) hx hb dX6_pass_461 (by decide) ?_
            obtain ⟨i_8, hi_8, si_8⟩ := sAt2 (k := i4) hP (by first | assumption | omega)
            refine gw_top (y := nI 1) rfl ?_
            refine gw_iald hx hb hK hP i_8 0 (k := 1) hi_8 rfl (by first | decide | omega) (by decide) dX6_pass_462 ?_
            refine gw_top (y := gM i4 (gBo day sv) sv i4) rfl ?_
            refine gw_top (y := sv i4) (gM_at (Nat.le_refl _)) ?_
            refine lv_if_lt (tgt := 484) hx hb dX6_pass_463 (by decide) (fun p1 => ?_) (fun p1 => ?_)
            · skip
              refine lv_iinc (v := nI (i4 + 1)) (lv' := [(5, .int (nI (i4 + 1))), (6, .ref (adi (2, i4))), (4, .int (nI nr)), (3, .ref oc), (2, .int (nI m3)), (1, .int (nI nw)), (0, .ref si)]) hx hb dX6_pass_484 hl (k := 1) rfl (nI_add i4 1) (by decide) rfl (fun ls hl => ?_)
              refine lv_goto (tgt := 446) hx hb dX6_pass_487 (by decide) ?_
              rw [gM_k (i := i4) (F := gBo day sv) (f := sv) (by first | exact sb_1 (hsv i4 hi) (by omega) p1 | exact sb_2 p2)] at hP hD
              exact ih446 (k, i4 + 1) H locs ls (by dsimp only; omega) ⟨hP, hD, hS, lv_sub hl [0, 2, 3, 4, 5, 6] rfl, (by omega)⟩
            · skip
              refine lv_aload hx hb dX6_pass_466 (lv_at hl 0 rfl) ?_
              refine lv_iconst (v := 1) hx hb dX6_pass_468 (by decide) ?_
              obtain ⟨i_10, hi_10, si_10⟩ := sAt2 (k := i4) hP (by first | assumption | omega)
              refine gw_top (y := nI 1) rfl ?_
              refine gw_iald hx hb hK hP i_10 0 (k := 1) hi_10 rfl (by first | decide | omega) (by decide) dX6_pass_469 ?_
              refine gw_top (y := gM i4 (gBo day sv) sv i4) rfl ?_
              refine gw_top (y := sv i4) (gM_at (Nat.le_refl _)) ?_
              refine lv_iconst (v := 3) hx hb dX6_pass_470 (by decide) ?_
              refine lv_iadd hx hb dX6_pass_471 ?_
              refine lv_aload_n hx hb dX6_pass_472 rfl (lv_at hl 6 rfl) ?_
              refine va_get (D := D) (ci := 6) (v := .int (nI day)) (C := RX6) (T := TX6) (N := 8) hx hb hts wc_X6_pass_X6 hown hK hP 0 rfl rfl 6 (by decide) (hts _ wd_X6_pass_4) (fun _ h9 => h9) rfl dX6_pass_473 ?_
              refine lv_icmp_ne (tgt := 484) hx hb dX6_pass_476 (by decide) (fun p2 => ?_) (fun p2 => ?_)
              · skip
                refine lv_iinc (v := nI (i4 + 1)) (lv' := [(5, .int (nI (i4 + 1))), (6, .ref (adi (2, i4))), (4, .int (nI nr)), (3, .ref oc), (2, .int (nI m3)), (1, .int (nI nw)), (0, .ref si)]) hx hb dX6_pass_484 hl (k := 1) rfl (nI_add i4 1) (by decide) rfl (fun ls hl => ?_)
                refine lv_goto (tgt := 446) hx hb dX6_pass_487 (by decide) ?_
                rw [gM_k (i := i4) (F := gBo day sv) (f := sv) (by first | exact sb_1 (hsv i4 hi) (by omega) p1 | exact sb_2 p2)] at hP hD
                exact ih446 (k, i4 + 1) H locs ls (by dsimp only; omega) ⟨hP, hD, hS, lv_sub hl [0, 2, 3, 4, 5, 6] rfl, (by omega)⟩
              · skip
                refine lv_aload hx hb dX6_pass_479 (lv_at hl 0 rfl) ?_
                refine lv_iconst (v := 1) hx hb dX6_pass_481 (by decide) ?_
                refine lv_iconst (v := (-1)) hx hb dX6_pass_482 (by decide) ?_
                refine gw_top (y := gBo day sv i4) (sb_3 (sb_n (hsv i4 hi) p1) p2) ?_
                obtain ⟨i_12, hi_12, si_12⟩ := sAt2 (k := i4) hP (by first | assumption | omega)
                refine gw_top2 (y := nI 1) rfl ?_
                refine gw_iast hx hb hK hP hD hS i_12 0 (k := 1) hi_12 rfl (by first | decide | omega) (by decide) dX6_pass_483 (fun H locs hP hD hS => ?_)
                rw [si_12, sU2_1] at hP hD
                have hP : va_P D vwCl (sW si fa ob op oc ow cI cW cO (Q 0) nb nq nr (sRf adi 0 nb) (sRf adi 1 nq) (sRf adi 2 nr) (sRf adi 3 nwi) (nI nwi) (nI day) co ++ (R ++ sPl nb nq nr nwi adi (sEn cI (Qi 1) (Qi 2) (Qi 3) (Qi 4) (Qi 5) (Qi 6) (gM nq (fun j => gLose (Qi 6 j) (Qi 7 j)) (Qi 7)) (Qi 8) (Qi 9) (Qi 11) (Qi 12) st3 ca (upd (gM i4 (gBo day sv) sv) i4 (gBo day sv i4)) (gM nw rl (fun _ => -1))))) _ := hP
                have hD : va_D A (sW si fa ob op oc ow cI cW cO (Q 0) nb nq nr (sRf adi 0 nb) (sRf adi 1 nq) (sRf adi 2 nr) (sRf adi 3 nwi) (nI nwi) (nI day) co ++ (R ++ sPl nb nq nr nwi adi (sEn cI (Qi 1) (Qi 2) (Qi 3) (Qi 4) (Qi 5) (Qi 6) (gM nq (fun j => gLose (Qi 6 j) (Qi 7 j)) (Qi 7)) (Qi 8) (Qi 9) (Qi 11) (Qi 12) st3 ca (upd (gM i4 (gBo day sv) sv) i4 (gBo day sv i4)) (gM nw rl (fun _ => -1))))) := hD
                refine lv_iinc (v := nI (i4 + 1)) (lv' := [(5, .int (nI (i4 + 1))), (6, .ref (adi (2, i4))), (4, .int (nI nr)), (3, .ref oc), (2, .int (nI m3)), (1, .int (nI nw)), (0, .ref si)]) hx hb dX6_pass_484 hl (k := 1) rfl (nI_add i4 1) (by decide) rfl (fun ls hl => ?_)
                refine lv_goto (tgt := 446) hx hb dX6_pass_487 (by decide) ?_
                rw [gM_s rfl] at hP hD
                exact ih446 (k, i4 + 1) H locs ls (by dsimp only; omega) ⟨hP, hD, hS, lv_sub hl [0, 2, 3, 4, 5, 6] rfl, (by omega)⟩
        · skip
          have hi : i3 < nwi := gw_lt (by omega) (by omega) c
          obtain ⟨k, rfl⟩ : ∃ k2, k = k2 + 1 := ⟨k - 1, by omega⟩
          refine lv_iload_n hx hb dX6_pass_396 rfl (lv_at hl 1 rfl) ?_
          refine lv_if_eq (tgt := 428) hx hb dX6_pass_397 (by decide) (fun g1 => ?_) (fun g1 => ?_)
          · skip
            refine lv_iinc (v := nI (i3 + 1)) (lv' := [(3, .int (nI (i3 + 1))), (2, .int (nI m3)), (1, .int (nI nw)), (0, .ref si)]) hx hb dX6_pass_428 hl (k := 0) rfl (nI_add i3 1) (by decide) rfl (fun ls hl => ?_)
            refine lv_goto (tgt := 388) hx hb dX6_pass_431 (by decide) ?_
            exact ih388 (k, i3 + 1, m3, st3) H locs ls (by dsimp only; omega) ⟨hP, hD, hS, lv_sub hl [0, 1, 2, 3] rfl, (by omega), (by first | exact (sp_dA g1).symm.trans hF3 | exact (sp_dB g1 hm3 g2).symm.trans hF3 | exact (sp_dC hm3 g2).symm.trans hF3), (by omega)⟩
          · skip
            refine lv_aload_n hx hb dX6_pass_400 rfl (lv_at hl 3 rfl) ?_
            refine va_get (D := D) (ci := 6) (v := .ref ow) (C := RX6) (T := TX6) (N := 8) hx hb hts wc_X6_pass_X6 hown hK hP 0 rfl rfl 4 (by decide) (hts _ wd_X6_pass_5) (fun _ h9 => h9) rfl dX6_pass_401 ?_
            refine lv_iload_n hx hb dX6_pass_404 rfl (lv_at hl 0 rfl) ?_
            refine gw_aldW hx hb hK hP 5 2 (k := i3) (v := adi (3, i3)) rfl rfl (sRf_at (by first | assumption | omega)) (by omega) (by omega) dX6_pass_405 ?_
            obtain ⟨i_14, hi_14, si_14⟩ := sAt3 (k := i3) hP (by first | assumption | omega)
            refine va_get (D := D) (ci := 7) (v := .int (st3 i3)) (C := RX7) (T := TX7) (N := 5) hx hb hts wc_X6_pass_X7 hown hK hP i_14 hi_14 rfl 3 (by decide) (hts _ wd_X6_pass_7) (fun _ h9 => h9) rfl dX6_pass_406 ?_
            refine lv_if_eq (tgt := 415) hx hb dX6_pass_409 (by decide) (fun g2 => ?_) (fun g2 => ?_)
            · skip
              refine lv_aload_n hx hb dX6_pass_415 rfl (lv_at hl 3 rfl) ?_
              refine va_get (D := D) (ci := 6) (v := .ref ow) (C := RX6) (T := TX6) (N := 8) hx hb hts wc_X6_pass_X6 hown hK hP 0 rfl rfl 4 (by decide) (hts _ wd_X6_pass_5) (fun _ h9 => h9) rfl dX6_pass_416 ?_
              refine lv_iload_n hx hb dX6_pass_419 rfl (lv_at hl 0 rfl) ?_
              refine gw_aldW hx hb hK hP 5 2 (k := i3) (v := adi (3, i3)) rfl rfl (sRf_at (by first | assumption | omega)) (by omega) (by omega) dX6_pass_420 ?_
              refine lv_iconst (v := 1) hx hb dX6_pass_421 (by decide) ?_
              obtain ⟨i_16, hi_16, si_16⟩ := sAt3 (k := i3) hP (by first | assumption | omega)
              refine va_put (D := D) (ci := 7) (v := .int 1) (ty := .int) (C := RX7) (T := TX7) (N := 5) hx hb hts wc_X6_pass_X7 tyX7 tyX7_ok nmX7 hown hK hP hD hS i_16 hi_16 rfl 3 (by decide) (hts _ wd_X6_pass_7) (fun _ h9 => h9) rfl (by decide +kernel) rfl rfl (Nat.le_of_ble_eq_true rfl) dX6_pass_422 (fun H locs hP hD hS => ?_)
              rw [si_16] at hP hD
              simp only [List.set_cons_succ, List.set_cons_zero] at hP hD
              rw [sU3_3] at hP hD
              have hP : va_P D vwCl (sW si fa ob op oc ow cI cW cO (Q 0) nb nq nr (sRf adi 0 nb) (sRf adi 1 nq) (sRf adi 2 nr) (sRf adi 3 nwi) (nI nwi) (nI day) co ++ (R ++ sPl nb nq nr nwi adi (sEn cI (Qi 1) (Qi 2) (Qi 3) (Qi 4) (Qi 5) (Qi 6) (gM nq (fun j => gLose (Qi 6 j) (Qi 7 j)) (Qi 7)) (Qi 8) (Qi 9) (Qi 11) (Qi 12) (upd st3 i3 1) ca sv (gM nw rl (fun _ => -1))))) _ := hP
              have hD : va_D A (sW si fa ob op oc ow cI cW cO (Q 0) nb nq nr (sRf adi 0 nb) (sRf adi 1 nq) (sRf adi 2 nr) (sRf adi 3 nwi) (nI nwi) (nI day) co ++ (R ++ sPl nb nq nr nwi adi (sEn cI (Qi 1) (Qi 2) (Qi 3) (Qi 4) (Qi 5) (Qi 6) (gM nq (fun j => gLose (Qi 6 j) (Qi 7 j)) (Qi 7)) (Qi 8) (Qi 9) (Qi 11) (Qi 12) (upd st3 i3 1) ca sv (gM nw rl (fun _ => -1))))) := hD
              obtain ⟨m4, rfl⟩ : ∃ m4, m3 = m4 + 1 := ⟨m3 - 1, by have h9 : m3 ≠ 0 := (fun e9 => g1 (by rw [e9]; rfl)); omega⟩
              refine lv_iinc (v := nI m4) (lv' := [(2, .int (nI m4)), (3, .int (nI i3)), (1, .int (nI nw)), (0, .ref si)]) hx hb dX6_pass_425 hl (k := 1) rfl (sp_dec m4) (by decide) rfl (fun ls hl => ?_)
              refine lv_iinc (v := nI (i3 + 1)) (lv' := [(3, .int (nI (i3 + 1))), (2, .int (nI m4)), (1, .int (nI nw)), (0, .ref si)]) hx hb dX6_pass_428 hl (k := 1) rfl (nI_add i3 1) (by decide) rfl (fun ls hl => ?_)
              refine lv_goto (tgt := 388) hx hb dX6_pass_431 (by decide) ?_
              exact ih388 (k, i3 + 1, m4, upd st3 i3 1) H locs ls (by dsimp only; omega) ⟨hP, hD, hS, lv_sub hl [0, 1, 2, 3] rfl, (by omega), (by first | exact (sp_dA g1).symm.trans hF3 | exact (sp_dB g1 hm3 g2).symm.trans hF3 | exact (sp_dC hm3 g2).symm.trans hF3), (by omega)⟩
            · skip
              refine lv_goto (tgt := 428) hx hb dX6_pass_412 (by decide) ?_
              refine lv_iinc (v := nI (i3 + 1)) (lv' := [(3, .int (nI (i3 + 1))), (2, .int (nI m3)), (1, .int (nI nw)), (0, .ref si)]) hx hb dX6_pass_428 hl (k := 0) rfl (nI_add i3 1) (by decide) rfl (fun ls hl => ?_)
              refine lv_goto (tgt := 388) hx hb dX6_pass_431 (by decide) ?_
              exact ih388 (k, i3 + 1, m3, st3) H locs ls (by dsimp only; omega) ⟨hP, hD, hS, lv_sub hl [0, 1, 2, 3] rfl, (by omega), (by first | exact (sp_dA g1).symm.trans hF3 | exact (sp_dB g1 hm3 g2).symm.trans hF3 | exact (sp_dC hm3 g2).symm.trans hF3), (by omega)⟩
    · skip
      have hi : i2 < nq := gw_lt (by omega) (by omega) c
      obtain ⟨k, rfl⟩ : ∃ k2, k = k2 + 1 := ⟨k - 1, by omega⟩
      refine lv_aload_n hx hb dX6_pass_303 rfl (lv_at hl 2 rfl) ?_
      refine lv_iload hx hb dX6_pass_304 (lv_at hl 0 rfl) ?_
      refine gw_aldA hx hb hK hP 3 3 (k := i2) (v := adi (1, i2)) rfl rfl (sRf_at (by first | assumption | omega)) (by first | assumption | omega) (by omega) dX6_pass_306 ?_
      refine lv_astore (lv' := [(5, .ref (adi (1, i2))), (4, .int (nI i2)), (3, .int (nI nq)), (2, .ref op), (1, .int (nI nw)), (0, .ref si)]) hx hb dX6_pass_307 hl (by decide) rfl (fun ls hl => ?_)
      refine lv_aload hx hb dX6_pass_309 (lv_at hl 0 rfl) ?_
      refine lv_iconst (v := 1) hx hb dX6_pass_311 (by decide) ?_
      obtain ⟨i_17, hi_17, si_17⟩ := sAt1 (k := i2) hP (by first | assumption | omega)
      refine gw_top (y := nI 1) rfl ?_
      refine gw_iald hx hb hK hP i_17 0 (k := 1) hi_17 rfl (by first | decide | omega) (by decide) dX6_pass_312 ?_
      refine gw_top (y := Qi 6 i2) rfl ?_
      refine lv_if_ge (tgt := 321) hx hb dX6_pass_313 (by decide) (fun e1 => ?_) (fun e1 => ?_)
      · skip
        have hnm : ¬ Qi 6 i2 = -1 := fun e9 => absurd e1 (by rw [e9]; decide)
        refine lv_aload hx hb dX6_pass_321 (lv_at hl 0 rfl) ?_
        refine lv_iconst (v := 2) hx hb dX6_pass_323 (by decide) ?_
        obtain ⟨i_19, hi_19, si_19⟩ := sAt1 (k := i2) hP (by first | assumption | omega)
        refine gw_top (y := nI 2) rfl ?_
        refine gw_iald hx hb hK hP i_19 0 (k := 2) hi_19 rfl (by first | decide | omega) (by decide) dX6_pass_324 ?_
        refine gw_top (y := gM i2 (fun j => gLose (Qi 6 j) (Qi 7 j)) (Qi 7) i2) rfl ?_
        refine gw_top (y := Qi 7 i2) (gM_at (Nat.le_refl _)) ?_
        refine lv_bipush (v := 59) hx hb dX6_pass_325 (by decide) ?_
        refine lv_icmp_le (tgt := 334) hx hb dX6_pass_327 (by decide) (fun e2 => ?_) (fun e2 => ?_)
        · skip
          refine lv_iconst (v := 0) hx hb dX6_pass_334 (by decide) ?_
          refine lv_istore (lv' := [(6, .int 0), (5, .ref (adi (1, i2))), (4, .int (nI i2)), (3, .int (nI nq)), (2, .ref op), (1, .int (nI nw)), (0, .ref si)]) hx hb dX6_pass_335 hl (by decide) rfl (fun ls hl => ?_)
          refine lv_aload hx hb dX6_pass_337 (lv_at hl 1 rfl) ?_
          refine lv_iconst (v := 2) hx hb dX6_pass_339 (by decide) ?_
          refine lv_aload hx hb dX6_pass_340 (lv_at hl 1 rfl) ?_
          refine lv_iconst (v := 2) hx hb dX6_pass_342 (by decide) ?_
          obtain ⟨i_21, hi_21, si_21⟩ := sAt1 (k := i2) hP (by first | assumption | omega)
          refine gw_top (y := nI 2) rfl ?_
          refine gw_iald hx hb hK hP i_21 0 (k := 2) hi_21 rfl (by first | decide | omega) (by decide) dX6_pass_343 ?_
          refine gw_top (y := gM i2 (fun j => gLose (Qi 6 j) (Qi 7 j)) (Qi 7) i2) rfl ?_
          refine gw_top (y := Qi 7 i2) (gM_at (Nat.le_refl _)) ?_
          refine lv_iload hx hb dX6_pass_344 (lv_at hl 0 rfl) ?_
          refine lv_icmp_ge (tgt := 353) hx hb dX6_pass_346 (by decide) (fun e3 => ?_) (fun e3 => ?_)
          · skip
            refine lv_aload hx hb dX6_pass_353 (lv_at hl 1 rfl) ?_
            refine lv_iconst (v := 2) hx hb dX6_pass_355 (by decide) ?_
            obtain ⟨i_23, hi_23, si_23⟩ := sAt1 (k := i2) hP (by first | assumption | omega)
            refine gw_top (y := nI 2) rfl ?_
            refine gw_iald hx hb hK hP i_23 0 (k := 2) hi_23 rfl (by first | decide | omega) (by decide) dX6_pass_356 ?_
            refine gw_top (y := gM i2 (fun j => gLose (Qi 6 j) (Qi 7 j)) (Qi 7) i2) rfl ?_
            refine gw_top (y := Qi 7 i2) (gM_at (Nat.le_refl _)) ?_
            refine lv_iload hx hb dX6_pass_357 (lv_at hl 0 rfl) ?_
            refine lv_isub hx hb dX6_pass_359 ?_
            refine gw_top (y := gLose (Qi 6 i2) (Qi 7 i2)) (by first | exact sl_a1 (hdi i2) hmm e3 | exact sl_a2 (hdi i2) hmm e3 | exact sl_b1 (hdi i2) hnm e2 e3 | exact sl_b2 (hdi i2) hnm e2 e3 | exact sl_c1 (hdi i2) hnm e2 e3 | exact sl_c2 (hdi i2) hnm e2 e3) ?_
            obtain ⟨i_24, hi_24, si_24⟩ := sAt1 (k := i2) hP (by first | assumption | omega)
            refine gw_top2 (y := nI 2) rfl ?_
            refine gw_iast hx hb hK hP hD hS i_24 0 (k := 2) hi_24 rfl (by first | decide | omega) (by decide) dX6_pass_360 (fun H locs hP hD hS => ?_)
            rw [si_24, sU1_2] at hP hD
            have hP : va_P D vwCl (sW si fa ob op oc ow cI cW cO (Q 0) nb nq nr (sRf adi 0 nb) (sRf adi 1 nq) (sRf adi 2 nr) (sRf adi 3 nwi) (nI nwi) (nI day) co ++ (R ++ sPl nb nq nr nwi adi (sEn cI (Qi 1) (Qi 2) (Qi 3) (Qi 4) (Qi 5) (Qi 6) (upd (gM i2 (fun j => gLose (Qi 6 j) (Qi 7 j)) (Qi 7)) i2 (gLose (Qi 6 i2) (Qi 7 i2))) (Qi 8) (Qi 9) (Qi 11) (Qi 12) (Qi 13) ca sv (gM nw rl (fun _ => -1))))) _ := hP
            have hD : va_D A (sW si fa ob op oc ow cI cW cO (Q 0) nb nq nr (sRf adi 0 nb) (sRf adi 1 nq) (sRf adi 2 nr) (sRf adi 3 nwi) (nI nwi) (nI day) co ++ (R ++ sPl nb nq nr nwi adi (sEn cI (Qi 1) (Qi 2) (Qi 3) (Qi 4) (Qi 5) (Qi 6) (upd (gM i2 (fun j => gLose (Qi 6 j) (Qi 7 j)) (Qi 7)) i2 (gLose (Qi 6 i2) (Qi 7 i2))) (Qi 8) (Qi 9) (Qi 11) (Qi 12) (Qi 13) ca sv (gM nw rl (fun _ => -1))))) := hD
            refine lv_iinc (v := nI (i2 + 1)) (lv' := [(4, .int (nI (i2 + 1))), (6, .int 0), (5, .ref (adi (1, i2))), (3, .int (nI nq)), (2, .ref op), (1, .int (nI nw)), (0, .ref si)]) hx hb dX6_pass_361 hl (k := 2) rfl (nI_add i2 1) (by decide) rfl (fun ls hl => ?_)
            refine lv_goto (tgt := 297) hx hb dX6_pass_364 (by decide) ?_
            rw [gM_s rfl] at hP hD
            exact ih297 (k, i2 + 1) H locs ls (by dsimp only; omega) ⟨hP, hD, hS, lv_sub hl [0, 3, 4, 5, 6] rfl, (by omega)⟩
          · skip
            refine lv_iconst (v := 0) hx hb dX6_pass_349 (by decide) ?_
            refine lv_goto (tgt := 360) hx hb dX6_pass_350 (by decide) ?_
            refine gw_top (y := gLose (Qi 6 i2) (Qi 7 i2)) (by first | exact sl_a1 (hdi i2) hmm e3 | exact sl_a2 (hdi i2) hmm e3 | exact sl_b1 (hdi i2) hnm e2 e3 | exact sl_b2 (hdi i2) hnm e2 e3 | exact sl_c1 (hdi i2) hnm e2 e3 | exact sl_c2 (hdi i2) hnm e2 e3) ?_
            obtain ⟨i_25, hi_25, si_25⟩ := sAt1 (k := i2) hP (by first | assumption | omega)
            refine gw_top2 (y := nI 2) rfl ?_
            refine gw_iast hx hb hK hP hD hS i_25 0 (k := 2) hi_25 rfl (by first | decide | omega) (by decide) dX6_pass_360 (fun H locs hP hD hS => ?_)
            rw [si_25, sU1_2] at hP hD
            have hP : va_P D vwCl (sW si fa ob op oc ow cI cW cO (Q 0) nb nq nr (sRf adi 0 nb) (sRf adi 1 nq) (sRf adi 2 nr) (sRf adi 3 nwi) (nI nwi) (nI day) co ++ (R ++ sPl nb nq nr nwi adi (sEn cI (Qi 1) (Qi 2) (Qi 3) (Qi 4) (Qi 5) (Qi 6) (upd (gM i2 (fun j => gLose (Qi 6 j) (Qi 7 j)) (Qi 7)) i2 (gLose (Qi 6 i2) (Qi 7 i2))) (Qi 8) (Qi 9) (Qi 11) (Qi 12) (Qi 13) ca sv (gM nw rl (fun _ => -1))))) _ := hP
            have hD : va_D A (sW si fa ob op oc ow cI cW cO (Q 0) nb nq nr (sRf adi 0 nb) (sRf adi 1 nq) (sRf adi 2 nr) (sRf adi 3 nwi) (nI nwi) (nI day) co ++ (R ++ sPl nb nq nr nwi adi (sEn cI (Qi 1) (Qi 2) (Qi 3) (Qi 4) (Qi 5) (Qi 6) (upd (gM i2 (fun j => gLose (Qi 6 j) (Qi 7 j)) (Qi 7)) i2 (gLose (Qi 6 i2) (Qi 7 i2))) (Qi 8) (Qi 9) (Qi 11) (Qi 12) (Qi 13) ca sv (gM nw rl (fun _ => -1))))) := hD
            refine lv_iinc (v := nI (i2 + 1)) (lv' := [(4, .int (nI (i2 + 1))), (6, .int 0), (5, .ref (adi (1, i2))), (3, .int (nI nq)), (2, .ref op), (1, .int (nI nw)), (0, .ref si)]) hx hb dX6_pass_361 hl (k := 2) rfl (nI_add i2 1) (by decide) rfl (fun ls hl => ?_)
            refine lv_goto (tgt := 297) hx hb dX6_pass_364 (by decide) ?_
            rw [gM_s rfl] at hP hD
            exact ih297 (k, i2 + 1) H locs ls (by dsimp only; omega) ⟨hP, hD, hS, lv_sub hl [0, 3, 4, 5, 6] rfl, (by omega)⟩
        · skip
          refine lv_iconst (v := 4) hx hb dX6_pass_330 (by decide) ?_
          refine lv_goto (tgt := 335) hx hb dX6_pass_331 (by decide) ?_
          refine lv_istore (lv' := [(6, .int 4), (5, .ref (adi (1, i2))), (4, .int (nI i2)), (3, .int (nI nq)), (2, .ref op), (1, .int (nI nw)), (0, .ref si)]) hx hb dX6_pass_335 hl (by decide) rfl (fun ls hl => ?_)
          refine lv_aload hx hb dX6_pass_337 (lv_at hl 1 rfl) ?_
          refine lv_iconst (v := 2) hx hb dX6_pass_339 (by decide) ?_
          refine lv_aload hx hb dX6_pass_340 (lv_at hl 1 rfl) ?_
          refine lv_iconst (v := 2) hx hb dX6_pass_342 (by decide) ?_
          obtain ⟨i_26, hi_26, si_26⟩ := sAt1 (k := i2) hP (by first | assumption | omega)
          refine gw_top (y := nI 2) rfl ?_
          refine gw_iald hx hb hK hP i_26 0 (k := 2) hi_26 rfl (by first | decide | omega) (by decide) dX6_pass_343 ?_
          refine gw_top (y := gM i2 (fun j => gLose (Qi 6 j) (Qi 7 j)) (Qi 7) i2) rfl ?_
          refine gw_top (y := Qi 7 i2) (gM_at (Nat.le_refl _)) ?_
          refine lv_iload hx hb dX6_pass_344 (lv_at hl 0 rfl) ?_
          refine lv_icmp_ge (tgt := 353) hx hb dX6_pass_346 (by decide) (fun e3 => ?_) (fun e3 => ?_)
          · skip
            refine lv_aload hx hb dX6_pass_353 (lv_at hl 1 rfl) ?_
            refine lv_iconst (v := 2) hx hb dX6_pass_355 (by decide) ?_
            obtain ⟨i_28, hi_28, si_28⟩ := sAt1 (k := i2) hP (by first | assumption | omega)
            refine gw_top (y := nI 2) rfl ?_
            refine gw_iald hx hb hK hP i_28 0 (k := 2) hi_28 rfl (by first | decide | omega) (by decide) dX6_pass_356 ?_
            refine gw_top (y := gM i2 (fun j => gLose (Qi 6 j) (Qi 7 j)) (Qi 7) i2) rfl ?_
            refine gw_top (y := Qi 7 i2) (gM_at (Nat.le_refl _)) ?_
            refine lv_iload hx hb dX6_pass_357 (lv_at hl 0 rfl) ?_
            refine lv_isub hx hb dX6_pass_359 ?_
            refine gw_top (y := gLose (Qi 6 i2) (Qi 7 i2)) (by first | exact sl_a1 (hdi i2) hmm e3 | exact sl_a2 (hdi i2) hmm e3 | exact sl_b1 (hdi i2) hnm e2 e3 | exact sl_b2 (hdi i2) hnm e2 e3 | exact sl_c1 (hdi i2) hnm e2 e3 | exact sl_c2 (hdi i2) hnm e2 e3) ?_
            obtain ⟨i_29, hi_29, si_29⟩ := sAt1 (k := i2) hP (by first | assumption | omega)
            refine gw_top2 (y := nI 2) rfl ?_
            refine gw_iast hx hb hK hP hD hS i_29 0 (k := 2) hi_29 rfl (by first | decide | omega) (by decide) dX6_pass_360 (fun H locs hP hD hS => ?_)
            rw [si_29, sU1_2] at hP hD
            have hP : va_P D vwCl (sW si fa ob op oc ow cI cW cO (Q 0) nb nq nr (sRf adi 0 nb) (sRf adi 1 nq) (sRf adi 2 nr) (sRf adi 3 nwi) (nI nwi) (nI day) co ++ (R ++ sPl nb nq nr nwi adi (sEn cI (Qi 1) (Qi 2) (Qi 3) (Qi 4) (Qi 5) (Qi 6) (upd (gM i2 (fun j => gLose (Qi 6 j) (Qi 7 j)) (Qi 7)) i2 (gLose (Qi 6 i2) (Qi 7 i2))) (Qi 8) (Qi 9) (Qi 11) (Qi 12) (Qi 13) ca sv (gM nw rl (fun _ => -1))))) _ := hP
            have hD : va_D A (sW si fa ob op oc ow cI cW cO (Q 0) nb nq nr (sRf adi 0 nb) (sRf adi 1 nq) (sRf adi 2 nr) (sRf adi 3 nwi) (nI nwi) (nI day) co ++ (R ++ sPl nb nq nr nwi adi (sEn cI (Qi 1) (Qi 2) (Qi 3) (Qi 4) (Qi 5) (Qi 6) (upd (gM i2 (fun j => gLose (Qi 6 j) (Qi 7 j)) (Qi 7)) i2 (gLose (Qi 6 i2) (Qi 7 i2))) (Qi 8) (Qi 9) (Qi 11) (Qi 12) (Qi 13) ca sv (gM nw rl (fun _ => -1))))) := hD
            refine lv_iinc (v := nI (i2 + 1)) (lv' := [(4, .int (nI (i2 + 1))), (6, .int 4), (5, .ref (adi (1, i2))), (3, .int (nI nq)), (2, .ref op), (1, .int (nI nw)), (0, .ref si)]) hx hb dX6_pass_361 hl (k := 2) rfl (nI_add i2 1) (by decide) rfl (fun ls hl => ?_)
            refine lv_goto (tgt := 297) hx hb dX6_pass_364 (by decide) ?_
            rw [gM_s rfl] at hP hD
            exact ih297 (k, i2 + 1) H locs ls (by dsimp only; omega) ⟨hP, hD, hS, lv_sub hl [0, 3, 4, 5, 6] rfl, (by omega)⟩
          · skip
            refine lv_iconst (v := 0) hx hb dX6_pass_349 (by decide) ?_
            refine lv_goto (tgt := 360) hx hb dX6_pass_350 (by decide) ?_
            refine gw_top (y := gLose (Qi 6 i2) (Qi 7 i2)) (by first | exact sl_a1 (hdi i2) hmm e3 | exact sl_a2 (hdi i2) hmm e3 | exact sl_b1 (hdi i2) hnm e2 e3 | exact sl_b2 (hdi i2) hnm e2 e3 | exact sl_c1 (hdi i2) hnm e2 e3 | exact sl_c2 (hdi i2) hnm e2 e3) ?_
            obtain ⟨i_30, hi_30, si_30⟩ := sAt1 (k := i2) hP (by first | assumption | omega)
            refine gw_top2 (y := nI 2) rfl ?_
            refine gw_iast hx hb hK hP hD hS i_30 0 (k := 2) hi_30 rfl (by first | decide | omega) (by decide) dX6_pass_360 (fun H locs hP hD hS => ?_)
            rw [si_30, sU1_2] at hP hD
            have hP : va_P D vwCl (sW si fa ob op oc ow cI cW cO (Q 0) nb nq nr (sRf adi 0 nb) (sRf adi 1 nq) (sRf adi 2 nr) (sRf adi 3 nwi) (nI nwi) (nI day) co ++ (R ++ sPl nb nq nr nwi adi (sEn cI (Qi 1) (Qi 2) (Qi 3) (Qi 4) (Qi 5) (Qi 6) (upd (gM i2 (fun j => gLose (Qi 6 j) (Qi 7 j)) (Qi 7)) i2 (gLose (Qi 6 i2) (Qi 7 i2))) (Qi 8) (Qi 9) (Qi 11) (Qi 12) (Qi 13) ca sv (gM nw rl (fun _ => -1))))) _ := hP
            have hD : va_D A (sW si fa ob op oc ow cI cW cO (Q 0) nb nq nr (sRf adi 0 nb) (sRf adi 1 nq) (sRf adi 2 nr) (sRf adi 3 nwi) (nI nwi) (nI day) co ++ (R ++ sPl nb nq nr nwi adi (sEn cI (Qi 1) (Qi 2) (Qi 3) (Qi 4) (Qi 5) (Qi 6) (upd (gM i2 (fun j => gLose (Qi 6 j) (Qi 7 j)) (Qi 7)) i2 (gLose (Qi 6 i2) (Qi 7 i2))) (Qi 8) (Qi 9) (Qi 11) (Qi 12) (Qi 13) ca sv (gM nw rl (fun _ => -1))))) := hD
            refine lv_iinc (v := nI (i2 + 1)) (lv' := [(4, .int (nI (i2 + 1))), (6, .int 4), (5, .ref (adi (1, i2))), (3, .int (nI nq)), (2, .ref op), (1, .int (nI nw)), (0, .ref si)]) hx hb dX6_pass_361 hl (k := 2) rfl (nI_add i2 1) (by decide) rfl (fun ls hl => ?_)
            refine lv_goto (tgt := 297) hx hb dX6_pass_364 (by decide) ?_
            rw [gM_s rfl] at hP hD
            exact ih297 (k, i2 + 1) H locs ls (by dsimp only; omega) ⟨hP, hD, hS, lv_sub hl [0, 3, 4, 5, 6] rfl, (by omega)⟩
      · skip
        have hmm : Qi 6 i2 = -1 := (hpi i2 hi).resolve_right (fun ⟨k9, hk9, e9⟩ => e1 (by rw [e9]; exact nI_pos' (by omega)))
        refine lv_bipush (v := 7) hx hb dX6_pass_316 (by decide) ?_
        refine lv_goto (tgt := 335) hx hb dX6_pass_318 (by decide) ?_
        refine lv_istore (lv' := [(6, .int 7), (5, .ref (adi (1, i2))), (4, .int (nI i2)), (3, .int (nI nq)), (2, .ref op), (1, .int (nI nw)), (0, .ref si)]) hx hb dX6_pass_335 hl (by decide) rfl (fun ls hl => ?_)
        refine lv_aload hx hb dX6_pass_337 (lv_at hl 1 rfl) ?_
        refine lv_iconst (v := 2) hx hb dX6_pass_339 (by decide) ?_
        refine lv_aload hx hb dX6_pass_340 (lv_at hl 1 rfl) ?_
        refine lv_iconst (v := 2) hx hb dX6_pass_342 (by decide) ?_
        obtain ⟨i_31, hi_31, si_31⟩ := sAt1 (k := i2) hP (by first | assumption | omega)
        refine gw_top (y := nI 2) rfl ?_
        refine gw_iald hx hb hK hP i_31 0 (k := 2) hi_31 rfl (by first | decide | omega) (by decide) dX6_pass_343 ?_
        refine gw_top (y := gM i2 (fun j => gLose (Qi 6 j) (Qi 7 j)) (Qi 7) i2) rfl ?_
        refine gw_top (y := Qi 7 i2) (gM_at (Nat.le_refl _)) ?_
        refine lv_iload hx hb dX6_pass_344 (lv_at hl 0 rfl) ?_
        refine lv_icmp_ge (tgt := 353) hx hb dX6_pass_346 (by decide) (fun e3 => ?_) (fun e3 => ?_)
        · skip
          refine lv_aload hx hb dX6_pass_353 (lv_at hl 1 rfl) ?_
          refine lv_iconst (v := 2) hx hb dX6_pass_355 (by decide) ?_
          obtain ⟨i_33, hi_33, si_33⟩ := sAt1 (k := i2) hP (by first | assumption | omega)
          refine gw_top (y := nI 2) rfl ?_
          refine gw_iald hx hb hK hP i_33 0 (k := 2) hi_33 rfl (by first | decide | omega) (by decide) dX6_pass_356 ?_
          refine gw_top (y := gM i2 (fun j => gLose (Qi 6 j) (Qi 7 j)) (Qi 7) i2) rfl ?_
          refine gw_top (y := Qi 7 i2) (gM_at (Nat.le_refl _)) ?_
          refine lv_iload hx hb dX6_pass_357 (lv_at hl 0 rfl) ?_
          refine lv_isub hx hb dX6_pass_359 ?_
          refine gw_top (y := gLose (Qi 6 i2) (Qi 7 i2)) (by first | exact sl_a1 (hdi i2) hmm e3 | exact sl_a2 (hdi i2) hmm e3 | exact sl_b1 (hdi i2) hnm e2 e3 | exact sl_b2 (hdi i2) hnm e2 e3 | exact sl_c1 (hdi i2) hnm e2 e3 | exact sl_c2 (hdi i2) hnm e2 e3) ?_
          obtain ⟨i_34, hi_34, si_34⟩ := sAt1 (k := i2) hP (by first | assumption | omega)
          refine gw_top2 (y := nI 2) rfl ?_
          refine gw_iast hx hb hK hP hD hS i_34 0 (k := 2) hi_34 rfl (by first | decide | omega) (by decide) dX6_pass_360 (fun H locs hP hD hS => ?_)
          rw [si_34, sU1_2] at hP hD
          have hP : va_P D vwCl (sW si fa ob op oc ow cI cW cO (Q 0) nb nq nr (sRf adi 0 nb) (sRf adi 1 nq) (sRf adi 2 nr) (sRf adi 3 nwi) (nI nwi) (nI day) co ++ (R ++ sPl nb nq nr nwi adi (sEn cI (Qi 1) (Qi 2) (Qi 3) (Qi 4) (Qi 5) (Qi 6) (upd (gM i2 (fun j => gLose (Qi 6 j) (Qi 7 j)) (Qi 7)) i2 (gLose (Qi 6 i2) (Qi 7 i2))) (Qi 8) (Qi 9) (Qi 11) (Qi 12) (Qi 13) ca sv (gM nw rl (fun _ => -1))))) _ := hP
          have hD : va_D A (sW si fa ob op oc ow cI cW cO (Q 0) nb nq nr (sRf adi 0 nb) (sRf adi 1 nq) (sRf adi 2 nr) (sRf adi 3 nwi) (nI nwi) (nI day) co ++ (R ++ sPl nb nq nr nwi adi (sEn cI (Qi 1) (Qi 2) (Qi 3) (Qi 4) (Qi 5) (Qi 6) (upd (gM i2 (fun j => gLose (Qi 6 j) (Qi 7 j)) (Qi 7)) i2 (gLose (Qi 6 i2) (Qi 7 i2))) (Qi 8) (Qi 9) (Qi 11) (Qi 12) (Qi 13) ca sv (gM nw rl (fun _ => -1))))) := hD
          refine lv_iinc (v := nI (i2 + 1)) (lv' := [(4, .int (nI (i2 + 1))), (6, .int 7), (5, .ref (adi (1, i2))), (3, .int (nI nq)), (2, .ref op), (1, .int (nI nw)), (0, .ref si)]) hx hb dX6_pass_361 hl (k := 2) rfl (nI_add i2 1) (by decide) rfl (fun ls hl => ?_)
          refine lv_goto (tgt := 297) hx hb dX6_pass_364 (by decide) ?_
          rw [gM_s rfl] at hP hD
          exact ih297 (k, i2 + 1) H locs ls (by dsimp only; omega) ⟨hP, hD, hS, lv_sub hl [0, 3, 4, 5, 6] rfl, (by omega)⟩
        · skip
          refine lv_iconst (v := 0) hx hb dX6_pass_349 (by decide) ?_
          refine lv_goto (tgt := 360) hx hb dX6_pass_350 (by decide) ?_
          refine gw_top (y := gLose (Qi 6 i2) (Qi 7 i2)) (by first | exact sl_a1 (hdi i2) hmm e3 | exact sl_a2 (hdi i2) hmm e3 | exact sl_b1 (hdi i2) hnm e2 e3 | exact sl_b2 (hdi i2) hnm e2 e3 | exact sl_c1 (hdi i2) hnm e2 e3 | exact sl_c2 (hdi i2) hnm e2 e3) ?_
          obtain ⟨i_35, hi_35, si_35⟩ := sAt1 (k := i2) hP (by first | assumption | omega)
          refine gw_top2 (y := nI 2) rfl ?_
          refine gw_iast hx hb hK hP hD hS i_35 0 (k := 2) hi_35 rfl (by first | decide | omega) (by decide) dX6_pass_360 (fun H locs hP hD hS => ?_)
          rw [si_35, sU1_2] at hP hD
          have hP : va_P D vwCl (sW si fa ob op oc ow cI cW cO (Q 0) nb nq nr (sRf adi 0 nb) (sRf adi 1 nq) (sRf adi 2 nr) (sRf adi 3 nwi) (nI nwi) (nI day) co ++ (R ++ sPl nb nq nr nwi adi (sEn cI (Qi 1) (Qi 2) (Qi 3) (Qi 4) (Qi 5) (Qi 6) (upd (gM i2 (fun j => gLose (Qi 6 j) (Qi 7 j)) (Qi 7)) i2 (gLose (Qi 6 i2) (Qi 7 i2))) (Qi 8) (Qi 9) (Qi 11) (Qi 12) (Qi 13) ca sv (gM nw rl (fun _ => -1))))) _ := hP
          have hD : va_D A (sW si fa ob op oc ow cI cW cO (Q 0) nb nq nr (sRf adi 0 nb) (sRf adi 1 nq) (sRf adi 2 nr) (sRf adi 3 nwi) (nI nwi) (nI day) co ++ (R ++ sPl nb nq nr nwi adi (sEn cI (Qi 1) (Qi 2) (Qi 3) (Qi 4) (Qi 5) (Qi 6) (upd (gM i2 (fun j => gLose (Qi 6 j) (Qi 7 j)) (Qi 7)) i2 (gLose (Qi 6 i2) (Qi 7 i2))) (Qi 8) (Qi 9) (Qi 11) (Qi 12) (Qi 13) ca sv (gM nw rl (fun _ => -1))))) := hD
          refine lv_iinc (v := nI (i2 + 1)) (lv' := [(4, .int (nI (i2 + 1))), (6, .int 7), (5, .ref (adi (1, i2))), (3, .int (nI nq)), (2, .ref op), (1, .int (nI nw)), (0, .ref si)]) hx hb dX6_pass_361 hl (k := 2) rfl (nI_add i2 1) (by decide) rfl (fun ls hl => ?_)
          refine lv_goto (tgt := 297) hx hb dX6_pass_364 (by decide) ?_
          rw [gM_s rfl] at hP hD
          exact ih297 (k, i2 + 1) H locs ls (by dsimp only; omega) ⟨hP, hD, hS, lv_sub hl [0, 3, 4, 5, 6] rfl, (by omega)⟩
  · skip
    have hi : i < nq := gw_lt (by omega) (by omega) c
    obtain ⟨k, rfl⟩ : ∃ k2, k = k2 + 1 := ⟨k - 1, by omega⟩
    refine lv_aload_n hx hb dX6_pass_22 rfl (lv_at hl 2 rfl) ?_
    refine lv_iload hx hb dX6_pass_23 (lv_at hl 0 rfl) ?_
    refine gw_aldA hx hb hK hP 3 3 (k := i) (v := adi (1, i)) rfl rfl (sRf_at (by first | assumption | omega)) (by first | assumption | omega) (by omega) dX6_pass_25 ?_
    refine lv_astore (lv' := [(5, .ref (adi (1, i))), (4, .int (nI i)), (3, .int (nI nq)), (2, .ref op), (1, .int (nI nw)), (0, .ref si)]) hx hb dX6_pass_26 hl (by decide) rfl (fun ls hl => ?_)
    refine lv_aload hx hb dX6_pass_28 (lv_at hl 0 rfl) ?_
    refine lv_iconst (v := 1) hx hb dX6_pass_30 (by decide) ?_
    obtain ⟨i_36, hi_36, si_36⟩ := sAt1 (k := i) hP (by first | assumption | omega)
    refine gw_top (y := nI 1) rfl ?_
    refine gw_iald hx hb hK hP i_36 0 (k := 1) hi_36 rfl (by first | decide | omega) (by decide) dX6_pass_31 ?_
    refine gw_top (y := Qi 6 i) rfl ?_
    refine lv_if_lt (tgt := 280) hx hb dX6_pass_32 (by decide) (fun c6 => ?_) (fun c6 => ?_)
    · skip
      have hm1 : Qi 6 i = -1 := (hpi i hi).resolve_right (fun ⟨k9, hk9, e9⟩ => by rw [e9] at c6; exact nI_pos (by omega) c6)
      refine lv_iinc (v := nI (i + 1)) (lv' := [(4, .int (nI (i + 1))), (5, .ref (adi (1, i))), (3, .int (nI nq)), (2, .ref op), (1, .int (nI nw)), (0, .ref si)]) hx hb dX6_pass_280 hl (k := 1) rfl (nI_add i 1) (by decide) rfl (fun ls hl => ?_)
      refine lv_goto (tgt := 16) hx hb dX6_pass_283 (by decide) ?_
      refine W.widen (k := 0 + (nwi - nw)) (n := 0 + 5 * (nwi - nw)) (by omega) (by omega) ?_
      exact ih16 (k, i + 1, Qi, nwi, adi) H locs ls (by dsimp only; omega) ⟨hP, hD, hS, lv_sub hl [0, 2, 3, 4, 5] rfl, (by omega), ((sp_crew (by first | exact sp_skip6 hm1 | exact sp_skip7 hn1 c7)).symm.trans hF), hpi, hgi, hsi, hdi, h3i, h0i, hnwi, hnw2⟩
    · skip
      have hn1 : ¬ Qi 6 i = -1 := fun e9 => c6 (by rw [e9]; decide)
      obtain ⟨b, hbb, hbe⟩ : ∃ b, b < nb ∧ Qi 6 i = nI b := (hpi i hi).resolve_left hn1
      refine lv_aload hx hb dX6_pass_35 (lv_at hl 0 rfl) ?_
      refine lv_iconst (v := 2) hx hb dX6_pass_37 (by decide) ?_
      obtain ⟨i_38, hi_38, si_38⟩ := sAt1 (k := i) hP (by first | assumption | omega)
      refine gw_top (y := nI 2) rfl ?_
      refine gw_iald hx hb hK hP i_38 0 (k := 2) hi_38 rfl (by first | decide | omega) (by decide) dX6_pass_38 ?_
      refine gw_top (y := Qi 7 i) rfl ?_
      refine lv_bipush (v := 59) hx hb dX6_pass_39 (by decide) ?_
      refine lv_icmp_le (tgt := 47) hx hb dX6_pass_41 (by decide) (fun c7 => ?_) (fun c7 => ?_)
      · skip
        refine lv_aload_n hx hb dX6_pass_47 rfl (lv_at hl 5 rfl) ?_
        refine va_get (D := D) (ci := 6) (v := .ref ob) (C := RX6) (T := TX6) (N := 8) hx hb hts wc_X6_pass_X6 hown hK hP 0 rfl rfl 1 (by decide) (hts _ wd_X6_pass_8) (fun _ h9 => h9) rfl dX6_pass_48 ?_
        refine lv_aload hx hb dX6_pass_51 (lv_at hl 0 rfl) ?_
        refine lv_iconst (v := 1) hx hb dX6_pass_53 (by decide) ?_
        obtain ⟨i_40, hi_40, si_40⟩ := sAt1 (k := i) hP (by first | assumption | omega)
        refine gw_top (y := nI 1) rfl ?_
        refine gw_iald hx hb hK hP i_40 0 (k := 1) hi_40 rfl (by first | decide | omega) (by decide) dX6_pass_54 ?_
        refine gw_top (y := Qi 6 i) rfl ?_
        refine gw_top (y := nI b) hbe ?_
        refine gw_aldA hx hb hK hP 2 3 (k := b) (v := adi (0, b)) rfl rfl (sRf_at (by first | assumption | omega)) (by first | assumption | omega) (by omega) dX6_pass_55 ?_
        refine lv_astore (lv' := [(6, .ref (adi (0, b))), (5, .ref (adi (1, i))), (4, .int (nI i)), (3, .int (nI nq)), (2, .ref op), (1, .int (nI nw)), (0, .ref si)]) hx hb dX6_pass_56 hl (by decide) rfl (fun ls hl => ?_)
        refine lv_aload hx hb dX6_pass_58 (lv_at hl 1 rfl) ?_
        refine lv_iconst (v := 3) hx hb dX6_pass_60 (by decide) ?_
        refine lv_dup2_11 hx hb dX6_pass_61 rfl rfl ?_
        obtain ⟨i_41, hi_41, si_41⟩ := sAt1 (k := i) hP (by first | assumption | omega)
        refine gw_top (y := nI 3) rfl ?_
        refine gw_iald hx hb hK hP i_41 0 (k := 3) hi_41 rfl (by first | decide | omega) (by decide) dX6_pass_62 ?_
        refine gw_top (y := Qi 8 i) rfl ?_
        refine lv_aload hx hb dX6_pass_63 (lv_at hl 1 rfl) ?_
        refine lv_iconst (v := 0) hx hb dX6_pass_65 (by decide) ?_
        obtain ⟨i_42, hi_42, si_42⟩ := sAt1 (k := i) hP (by first | assumption | omega)
        refine gw_top (y := nI 0) rfl ?_
        refine gw_iald hx hb hK hP i_42 0 (k := 0) hi_42 rfl (by first | decide | omega) (by decide) dX6_pass_66 ?_
        refine gw_top (y := Qi 5 i) rfl ?_
        refine lv_iadd hx hb dX6_pass_67 ?_
        obtain ⟨i_43, hi_43, si_43⟩ := sAt1 (k := i) hP (by first | assumption | omega)
        refine gw_top2 (y := nI 3) rfl ?_
        refine gw_iast hx hb hK hP hD hS i_43 0 (k := 3) hi_43 rfl (by first | decide | omega) (by decide) dX6_pass_68 (fun H locs hP hD hS => ?_)
        rw [si_43, sU1_3] at hP hD
        have hP : va_P D vwCl (sW si fa ob op oc ow cI cW cO (Q 0) nb nq nr (sRf adi 0 nb) (sRf adi 1 nq) (sRf adi 2 nr) (sRf adi 3 nwi) (nI nwi) (nI day) co ++ (R ++ sPl nb nq nr nwi adi (sEn cI (Qi 1) (Qi 2) (Qi 3) (Qi 4) (Qi 5) (Qi 6) (Qi 7) (upd (Qi 8) i ((Qi 8 i) + (Qi 5 i))) (Qi 9) (Qi 11) (Qi 12) (Qi 13) ca sv (gM nw rl (fun _ => -1))))) _ := hP
        have hD : va_D A (sW si fa ob op oc ow cI cW cO (Q 0) nb nq nr (sRf adi 0 nb) (sRf adi 1 nq) (sRf adi 2 nr) (sRf adi 3 nwi) (nI nwi) (nI day) co ++ (R ++ sPl nb nq nr nwi adi (sEn cI (Qi 1) (Qi 2) (Qi 3) (Qi 4) (Qi 5) (Qi 6) (Qi 7) (upd (Qi 8) i ((Qi 8 i) + (Qi 5 i))) (Qi 9) (Qi 11) (Qi 12) (Qi 13) ca sv (gM nw rl (fun _ => -1))))) := hD
        refine lv_aload hx hb dX6_pass_69 (lv_at hl 1 rfl) ?_
        refine lv_iconst (v := 2) hx hb dX6_pass_71 (by decide) ?_
        refine lv_aload hx hb dX6_pass_72 (lv_at hl 1 rfl) ?_
        refine lv_iconst (v := 2) hx hb dX6_pass_74 (by decide) ?_
        obtain ⟨i_44, hi_44, si_44⟩ := sAt1 (k := i) hP (by first | assumption | omega)
        refine gw_top (y := nI 2) rfl ?_
        refine gw_iald hx hb hK hP i_44 0 (k := 2) hi_44 rfl (by first | decide | omega) (by decide) dX6_pass_75 ?_
        refine gw_top (y := Qi 7 i) rfl ?_
        refine lv_aload hx hb dX6_pass_76 (lv_at hl 0 rfl) ?_
        refine lv_iconst (v := 0) hx hb dX6_pass_78 (by decide) ?_
        obtain ⟨i_45, hi_45, si_45⟩ := sAt0 (k := b) hP (by first | assumption | omega)
        refine gw_top (y := nI 0) rfl ?_
        refine gw_iald hx hb hK hP i_45 0 (k := 0) hi_45 rfl (by first | decide | omega) (by decide) dX6_pass_79 ?_
        refine gw_top (y := Qi 1 b) rfl ?_
        refine lv_iadd hx hb dX6_pass_80 ?_
        refine lv_iconst (v := 1) hx hb dX6_pass_81 (by decide) ?_
        refine lv_iadd hx hb dX6_pass_82 ?_
        refine gw_cut (X := Unit) (fun (zz : Unit) H locs ls => match zz with | _ => va_P D vwCl (sW si fa ob op oc ow cI cW cO (Q 0) nb nq nr (sRf adi 0 nb) (sRf adi 1 nq) (sRf adi 2 nr) (sRf adi 3 nwi) (nI nwi) (nI day) co ++ (R ++ sPl nb nq nr nwi adi (sEn cI (Qi 1) (Qi 2) (Qi 3) (Qi 4) (Qi 5) (Qi 6) (Qi 7) (upd (Qi 8) i ((Qi 8 i) + (Qi 5 i))) (Qi 9) (Qi 11) (Qi 12) (Qi 13) ca sv (gM nw rl (fun _ => -1))))) H ∧ va_D A (sW si fa ob op oc ow cI cW cO (Q 0) nb nq nr (sRf adi 0 nb) (sRf adi 1 nq) (sRf adi 2 nr) (sRf adi 3 nwi) (nI nwi) (nI day) co ++ (R ++ sPl nb nq nr nwi adi (sEn cI (Qi 1) (Qi 2) (Qi 3) (Qi 4) (Qi 5) (Qi 6) (Qi 7) (upd (Qi 8) i ((Qi 8 i) + (Qi 5 i))) (Qi 9) (Qi 11) (Qi 12) (Qi 13) ca sv (gM nw rl (fun _ => -1))))) ∧ va_S A s.heap H locs ∧ lv_has ls 8 [(6, .ref (adi (0, b))), (5, .ref (adi (1, i))), (4, .int (nI i)), (3, .int (nI nq)), (2, .ref op), (1, .int (nI nw)), (0, .ref si)] ∧ True) (fun (zz : Unit) ls => match zz with | _ => F0 m 104 ls [.int (if Qi 7 i + (Qi 1 b + 1) < 100 then Qi 7 i + (Qi 1 b + 1) else 100), .int 2, .ref (adi (1, i))]) (0 + (nwi - nw)) (0 + 5 * (nwi - nw)) (fun hK104 => ?_) ?_
        · skip
          refine lv_bipush (v := 100) hx hb dX6_pass_83 (by decide) ?_
          refine lv_icmp_le (tgt := 93) hx hb dX6_pass_85 (by decide) (fun j1 => ?_) (fun j1 => ?_)
          · skip
            refine lv_aload hx hb dX6_pass_93 (lv_at hl 1 rfl) ?_
            refine lv_iconst (v := 2) hx hb dX6_pass_95 (by decide) ?_
            obtain ⟨i_47, hi_47, si_47⟩ := sAt1 (k := i) hP (by first | assumption | omega)
            refine gw_top (y := nI 2) rfl ?_
            refine gw_iald hx hb hK hP i_47 0 (k := 2) hi_47 rfl (by first | decide | omega) (by decide) dX6_pass_96 ?_
            refine gw_top (y := Qi 7 i) rfl ?_
            refine lv_aload hx hb dX6_pass_97 (lv_at hl 0 rfl) ?_
            refine lv_iconst (v := 0) hx hb dX6_pass_99 (by decide) ?_
            obtain ⟨i_48, hi_48, si_48⟩ := sAt0 (k := b) hP (by first | assumption | omega)
            refine gw_top (y := nI 0) rfl ?_
            refine gw_iald hx hb hK hP i_48 0 (k := 0) hi_48 rfl (by first | decide | omega) (by decide) dX6_pass_100 ?_
            refine gw_top (y := Qi 1 b) rfl ?_
            refine lv_iadd hx hb dX6_pass_101 ?_
            refine lv_iconst (v := 1) hx hb dX6_pass_102 (by decide) ?_
            refine lv_iadd hx hb dX6_pass_103 ?_
            refine gw_top (y := if Qi 7 i + (Qi 1 b + 1) < 100 then Qi 7 i + (Qi 1 b + 1) else 100) (by first | exact sp_min1 j1 | exact sp_min2 j1) ?_
            exact hK104 () _ _ _ ⟨hP, hD, hS, lv_sub hl [0, 1, 2, 3, 4, 5, 6] rfl, trivial⟩
          · skip
            refine lv_bipush (v := 100) hx hb dX6_pass_88 (by decide) ?_
            refine lv_goto (tgt := 104) hx hb dX6_pass_90 (by decide) ?_
            refine gw_top (y := if Qi 7 i + (Qi 1 b + 1) < 100 then Qi 7 i + (Qi 1 b + 1) else 100) (by first | exact sp_min1 j1 | exact sp_min2 j1) ?_
            exact hK104 () _ _ _ ⟨hP, hD, hS, lv_sub hl [0, 1, 2, 3, 4, 5, 6] rfl, trivial⟩
        · skip
          rintro - H locs ls ⟨hP, hD, hS, hl, -⟩
          have hP : va_P D vwCl (sW si fa ob op oc ow cI cW cO (Q 0) nb nq nr (sRf adi 0 nb) (sRf adi 1 nq) (sRf adi 2 nr) (sRf adi 3 nwi) (nI nwi) (nI day) co ++ (R ++ sPl nb nq nr nwi adi (sEn cI (Qi 1) (Qi 2) (Qi 3) (Qi 4) (Qi 5) (Qi 6) (Qi 7) (upd (Qi 8) i ((Qi 8 i) + (Qi 5 i))) (Qi 9) (Qi 11) (Qi 12) (Qi 13) ca sv (gM nw rl (fun _ => -1))))) H := hP
          have hD : va_D A (sW si fa ob op oc ow cI cW cO (Q 0) nb nq nr (sRf adi 0 nb) (sRf adi 1 nq) (sRf adi 2 nr) (sRf adi 3 nwi) (nI nwi) (nI day) co ++ (R ++ sPl nb nq nr nwi adi (sEn cI (Qi 1) (Qi 2) (Qi 3) (Qi 4) (Qi 5) (Qi 6) (Qi 7) (upd (Qi 8) i ((Qi 8 i) + (Qi 5 i))) (Qi 9) (Qi 11) (Qi 12) (Qi 13) ca sv (gM nw rl (fun _ => -1))))) := hD
          have hl : lv_has ls 8 [(6, .ref (adi (0, b))), (5, .ref (adi (1, i))), (4, .int (nI i)), (3, .int (nI nq)), (2, .ref op), (1, .int (nI nw)), (0, .ref si)] := hl
          obtain ⟨i_49, hi_49, si_49⟩ := sAt1 (k := i) hP (by first | assumption | omega)
          refine gw_top2 (y := nI 2) rfl ?_
          refine gw_iast hx hb hK hP hD hS i_49 0 (k := 2) hi_49 rfl (by first | decide | omega) (by decide) dX6_pass_104 (fun H locs hP hD hS => ?_)
          rw [si_49, sU1_2] at hP hD
          have hP : va_P D vwCl (sW si fa ob op oc ow cI cW cO (Q 0) nb nq nr (sRf adi 0 nb) (sRf adi 1 nq) (sRf adi 2 nr) (sRf adi 3 nwi) (nI nwi) (nI day) co ++ (R ++ sPl nb nq nr nwi adi (sEn cI (Qi 1) (Qi 2) (Qi 3) (Qi 4) (Qi 5) (Qi 6) (upd (Qi 7) i (if Qi 7 i + (Qi 1 b + 1) < 100 then Qi 7 i + (Qi 1 b + 1) else 100)) (upd (Qi 8) i ((Qi 8 i) + (Qi 5 i))) (Qi 9) (Qi 11) (Qi 12) (Qi 13) ca sv (gM nw rl (fun _ => -1))))) _ := hP
          have hD : va_D A (sW si fa ob op oc ow cI cW cO (Q 0) nb nq nr (sRf adi 0 nb) (sRf adi 1 nq) (sRf adi 2 nr) (sRf adi 3 nwi) (nI nwi) (nI day) co ++ (R ++ sPl nb nq nr nwi adi (sEn cI (Qi 1) (Qi 2) (Qi 3) (Qi 4) (Qi 5) (Qi 6) (upd (Qi 7) i (if Qi 7 i + (Qi 1 b + 1) < 100 then Qi 7 i + (Qi 1 b + 1) else 100)) (upd (Qi 8) i ((Qi 8 i) + (Qi 5 i))) (Qi 9) (Qi 11) (Qi 12) (Qi 13) ca sv (gM nw rl (fun _ => -1))))) := hD
          refine gw_loopc (fun (zz : Nat × (Nat → Nat → Int32) × Nat × (Nat × Nat → Nat)) H locs ls => match zz with | (kk, Qj, nwj, adj) => va_P D vwCl (sW si fa ob op oc ow cI cW cO (Q 0) nb nq nr (sRf adj 0 nb) (sRf adj 1 nq) (sRf adj 2 nr) (sRf adj 3 nwj) (nI nwj) (nI day) co ++ (R ++ sPl nb nq nr nwj adj (sEn cI (Qj 1) (Qj 2) (Qj 3) (Qj 4) (Qj 5) (Qj 6) (Qj 7) (Qj 8) (Qj 9) (Qj 11) (Qj 12) (Qj 13) ca sv (gM nw rl (fun _ => -1))))) H ∧ va_D A (sW si fa ob op oc ow cI cW cO (Q 0) nb nq nr (sRf adj 0 nb) (sRf adj 1 nq) (sRf adj 2 nr) (sRf adj 3 nwj) (nI nwj) (nI day) co ++ (R ++ sPl nb nq nr nwj adj (sEn cI (Qj 1) (Qj 2) (Qj 3) (Qj 4) (Qj 5) (Qj 6) (Qj 7) (Qj 8) (Qj 9) (Qj 11) (Qj 12) (Qj 13) ca sv (gM nw rl (fun _ => -1))))) ∧ va_S A s.heap H locs ∧ lv_has ls 8 [(6, .ref (adj (0, b))), (5, .ref (adj (1, i))), (4, .int (nI i)), (3, .int (nI nq)), (2, .ref op), (1, .int (nI nw)), (0, .ref si)] ∧ (kk + nwj = 60) ∧ (gWk i b (gSize (Qi 5 i) day) kk Qj nwj = gWk i b (gSize (Qi 5 i) day) (60 - nwi) (gToil Qi i b) nwi) ∧ (∀ b, b < nb → (0 : Int32) ≤ Qj 3 b ∧ Qj 3 b ≤ 200) ∧ (∀ j, (j = 0 ∨ j = 1 ∨ j = 2 ∨ j = 5 ∨ j = 6 ∨ j = 7) → Qj j = gToil Qi i b j) ∧ (nwi ≤ nwj)) (fun (zz : Nat × (Nat → Nat → Int32) × Nat × (Nat × Nat → Nat)) => match zz with | (kk, Qj, nwj, adj) => kk) (fun (zz : Nat × (Nat → Nat → Int32) × Nat × (Nat × Nat → Nat)) => match zz with | (kk, Qj, nwj, adj) => 0 + (nwj - nw)) (fun (zz : Nat × (Nat → Nat → Int32) × Nat × (Nat × Nat → Nat)) => match zz with | (kk, Qj, nwj, adj) => 0 + 5 * (nwj - nw)) (60 - nwi, gToil Qi i b, nwi, adi) (by show _ ≤ 0 + (nwi - nw); omega) (by show _ ≤ 0 + 5 * (nwi - nw); omega) ⟨hP, hD, hS, lv_sub hl [0, 1, 2, 3, 4, 5, 6] rfl, (by omega), rfl, h3i, (fun _ _ => rfl), (Nat.le_refl _)⟩ ?_
          rintro ⟨kk, Qj, nwj, adj⟩ ih H locs ls ⟨hP, hD, hS, hl, hkj, hFj, h3j, hj, hnj⟩
          refine W.widen (k := 0 + (nwj - nw)) (n := 0 + 5 * (nwj - nw)) (Nat.le_refl _) (Nat.le_refl _) ?_
          have hP : va_P D vwCl (sW si fa ob op oc ow cI cW cO (Q 0) nb nq nr (sRf adj 0 nb) (sRf adj 1 nq) (sRf adj 2 nr) (sRf adj 3 nwj) (nI nwj) (nI day) co ++ (R ++ sPl nb nq nr nwj adj (sEn cI (Qj 1) (Qj 2) (Qj 3) (Qj 4) (Qj 5) (Qj 6) (Qj 7) (Qj 8) (Qj 9) (Qj 11) (Qj 12) (Qj 13) ca sv (gM nw rl (fun _ => -1))))) H := hP
          have hD : va_D A (sW si fa ob op oc ow cI cW cO (Q 0) nb nq nr (sRf adj 0 nb) (sRf adj 1 nq) (sRf adj 2 nr) (sRf adj 3 nwj) (nI nwj) (nI day) co ++ (R ++ sPl nb nq nr nwj adj (sEn cI (Qj 1) (Qj 2) (Qj 3) (Qj 4) (Qj 5) (Qj 6) (Qj 7) (Qj 8) (Qj 9) (Qj 11) (Qj 12) (Qj 13) ca sv (gM nw rl (fun _ => -1))))) := hD
          have hl : lv_has ls 8 [(6, .ref (adj (0, b))), (5, .ref (adj (1, i))), (4, .int (nI i)), (3, .int (nI nq)), (2, .ref op), (1, .int (nI nw)), (0, .ref si)] := hl
          have hkj : kk + nwj = 60 := hkj
          have hFj : gWk i b (gSize (Qi 5 i) day) kk Qj nwj = gWk i b (gSize (Qi 5 i) day) (60 - nwi) (gToil Qi i b) nwi := hFj
          have h3j : ∀ b, b < nb → (0 : Int32) ≤ Qj 3 b ∧ Qj 3 b ≤ 200 := h3j
          have hj : ∀ j, (j = 0 ∨ j = 1 ∨ j = 2 ∨ j = 5 ∨ j = 6 ∨ j = 7) → Qj j = gToil Qi i b j := hj
          have hnj : nwi ≤ nwj := hnj
          have ih105 := ih
          have hj0 : Qj 0 = Qi 0 := hj 0 (by omega)
          have hj1 : Qj 1 = Qi 1 := hj 1 (by omega)
          have hj5 : Qj 5 = Qi 5 := hj 5 (by omega)
          have hj6 : Qj 6 = Qi 6 := hj 6 (by omega)
          have hj7 : Qj 7 = gToil Qi i b 7 := hj 7 (by omega)
          refine lv_aload hx hb dX6_pass_105 (lv_at hl 1 rfl) ?_
          refine lv_iconst (v := 3) hx hb dX6_pass_107 (by decide) ?_
          obtain ⟨i_50, hi_50, si_50⟩ := sAt1 (k := i) hP (by first | assumption | omega)
          refine gw_top (y := nI 3) rfl ?_
          refine gw_iald hx hb hK hP i_50 0 (k := 3) hi_50 rfl (by first | decide | omega) (by decide) dX6_pass_108 ?_
          refine gw_top (y := Qj 8 i) rfl ?_
          refine lv_bipush (v := 9) hx hb dX6_pass_109 (by decide) ?_
          refine lv_icmp_le (tgt := 280) hx hb dX6_pass_111 (by decide) (fun d1 => ?_) (fun d1 => ?_)
          · skip
            refine lv_iinc (v := nI (i + 1)) (lv' := [(4, .int (nI (i + 1))), (6, .ref (adj (0, b))), (5, .ref (adj (1, i))), (3, .int (nI nq)), (2, .ref op), (1, .int (nI nw)), (0, .ref si)]) hx hb dX6_pass_280 hl (k := 2) rfl (nI_add i 1) (by decide) rfl (fun ls hl => ?_)
            refine lv_goto (tgt := 16) hx hb dX6_pass_283 (by decide) ?_
            have hWk : gWork Qi nwi day i = (Qj, nwj) := sp_work hbe (by omega) c7 (hFj.symm.trans (by first | exact gWk_end1 d1 | exact gWk_end2 d2 | exact gWk_end3 hkj d3))
            have hduj : gDu Qj := by intro j9; rw [hj7]; exact gToil_du hdi ⟨Int32.le_trans (by decide) (hgi b hbb).1, (hgi b hbb).2⟩ j9
            refine W.widen (k := 0 + (nwj - nw)) (n := 0 + 5 * (nwj - nw)) (by omega) (by omega) ?_
            exact ih16 (k, i + 1, Qj, nwj, adj) H locs ls (by dsimp only; omega) ⟨hP, hD, hS, lv_sub hl [0, 3, 4, 5, 6] rfl, (by omega), ((sp_crew hWk).symm.trans hF), (hpi.of hj6), (hgi.of hj1), (hsi.of hj5), hduj, h3j, (hj0.trans h0i), (by omega), (by omega)⟩
          · skip
            refine lv_aload hx hb dX6_pass_114 (lv_at hl 0 rfl) ?_
            refine lv_iconst (v := 2) hx hb dX6_pass_116 (by decide) ?_
            obtain ⟨i_52, hi_52, si_52⟩ := sAt0 (k := b) hP (by first | assumption | omega)
            refine gw_top (y := nI 2) rfl ?_
            refine gw_iald hx hb hK hP i_52 0 (k := 2) hi_52 rfl (by first | decide | omega) (by decide) dX6_pass_117 ?_
            refine gw_top (y := Qj 3 b) rfl ?_
            refine lv_if_le (tgt := 280) hx hb dX6_pass_118 (by decide) (fun d2 => ?_) (fun d2 => ?_)
            · skip
              refine lv_iinc (v := nI (i + 1)) (lv' := [(4, .int (nI (i + 1))), (6, .ref (adj (0, b))), (5, .ref (adj (1, i))), (3, .int (nI nq)), (2, .ref op), (1, .int (nI nw)), (0, .ref si)]) hx hb dX6_pass_280 hl (k := 2) rfl (nI_add i 1) (by decide) rfl (fun ls hl => ?_)
              refine lv_goto (tgt := 16) hx hb dX6_pass_283 (by decide) ?_
              have hWk : gWork Qi nwi day i = (Qj, nwj) := sp_work hbe (by omega) c7 (hFj.symm.trans (by first | exact gWk_end1 d1 | exact gWk_end2 d2 | exact gWk_end3 hkj d3))
              have hduj : gDu Qj := by intro j9; rw [hj7]; exact gToil_du hdi ⟨Int32.le_trans (by decide) (hgi b hbb).1, (hgi b hbb).2⟩ j9
              refine W.widen (k := 0 + (nwj - nw)) (n := 0 + 5 * (nwj - nw)) (by omega) (by omega) ?_
              exact ih16 (k, i + 1, Qj, nwj, adj) H locs ls (by dsimp only; omega) ⟨hP, hD, hS, lv_sub hl [0, 3, 4, 5, 6] rfl, (by omega), ((sp_crew hWk).symm.trans hF), (hpi.of hj6), (hgi.of hj1), (hsi.of hj5), hduj, h3j, (hj0.trans h0i), (by omega), (by omega)⟩
            · skip
              refine lv_aload_n hx hb dX6_pass_121 rfl (lv_at hl 6 rfl) ?_
              refine va_get (D := D) (ci := 6) (v := .int (nI nwj)) (C := RX6) (T := TX6) (N := 8) hx hb hts wc_X6_pass_X6 hown hK hP 0 rfl rfl 5 (by decide) (hts _ wd_X6_pass_1) (fun _ h9 => h9) rfl dX6_pass_122 ?_
              refine lv_bipush (v := 60) hx hb dX6_pass_125 (by decide) ?_
              refine lv_icmp_ge (tgt := 280) hx hb dX6_pass_127 (by decide) (fun d3 => ?_) (fun d3 => ?_)
              · skip
                refine lv_iinc (v := nI (i + 1)) (lv' := [(4, .int (nI (i + 1))), (6, .ref (adj (0, b))), (5, .ref (adj (1, i))), (3, .int (nI nq)), (2, .ref op), (1, .int (nI nw)), (0, .ref si)]) hx hb dX6_pass_280 hl (k := 2) rfl (nI_add i 1) (by decide) rfl (fun ls hl => ?_)
                refine lv_goto (tgt := 16) hx hb dX6_pass_283 (by decide) ?_
                have hWk : gWork Qi nwi day i = (Qj, nwj) := sp_work hbe (by omega) c7 (hFj.symm.trans (by first | exact gWk_end1 d1 | exact gWk_end2 d2 | exact gWk_end3 hkj d3))
                have hduj : gDu Qj := by intro j9; rw [hj7]; exact gToil_du hdi ⟨Int32.le_trans (by decide) (hgi b hbb).1, (hgi b hbb).2⟩ j9
                refine W.widen (k := 0 + (nwj - nw)) (n := 0 + 5 * (nwj - nw)) (by omega) (by omega) ?_
                exact ih16 (k, i + 1, Qj, nwj, adj) H locs ls (by dsimp only; omega) ⟨hP, hD, hS, lv_sub hl [0, 3, 4, 5, 6] rfl, (by omega), ((sp_crew hWk).symm.trans hF), (hpi.of hj6), (hgi.of hj1), (hsi.of hj5), hduj, h3j, (hj0.trans h0i), (by omega), (by omega)⟩
              · skip
                have h60 : nwj < 60 := gw_lt (n := 60) (by omega) (by omega) d3
                obtain ⟨kk, rfl⟩ : ∃ k2, kk = k2 + 1 := ⟨kk - 1, by omega⟩
                refine va_new (ci := 7) (fs := [.int 0, .int 0, .int 0, .int 0, .int 0]) (C := RX7) (T := TX7) (N := 5) hx hb hts wc_X6_pass_X7 tyX7 tyX7_ok hown (hts _ wd_X6_pass_9) (hts _ wd_X6_pass_10) (hts _ wd_X6_pass_11) hK hP hD hS hA rfl (fun j hj => by rcases (show j = 0 ∨ j = 1 ∨ j = 2 ∨ j = 3 ∨ j = 4 by omega) with rfl | rfl | rfl | rfl | rfl <;> rfl) (by show _ ≤ 60; omega) (by show _ ≤ 300; omega) dX6_pass_130 (fun q_55 H hP hD hS => ?_)
                obtain ⟨hP, hD⟩ := gPD_new hP hD
                have hP : va_P D vwCl (sW si fa ob op oc ow cI cW cO (Q 0) nb nq nr (sRf adj 0 nb) (sRf adj 1 nq) (sRf adj 2 nr) (sRf adj 3 nwj) (nI nwj) (nI day) co ++ (((q_55, .inr (7, [.int 0, .int 0, .int 0, .int 0, .int 0])) :: R) ++ sPl nb nq nr nwj adj (sEn cI (Qj 1) (Qj 2) (Qj 3) (Qj 4) (Qj 5) (Qj 6) (Qj 7) (Qj 8) (Qj 9) (Qj 11) (Qj 12) (Qj 13) ca sv (gM nw rl (fun _ => -1))))) _ := hP
                have hD : va_D A (sW si fa ob op oc ow cI cW cO (Q 0) nb nq nr (sRf adj 0 nb) (sRf adj 1 nq) (sRf adj 2 nr) (sRf adj 3 nwj) (nI nwj) (nI day) co ++ (((q_55, .inr (7, [.int 0, .int 0, .int 0, .int 0, .int 0])) :: R) ++ sPl nb nq nr nwj adj (sEn cI (Qj 1) (Qj 2) (Qj 3) (Qj 4) (Qj 5) (Qj 6) (Qj 7) (Qj 8) (Qj 9) (Qj 11) (Qj 12) (Qj 13) ca sv (gM nw rl (fun _ => -1))))) := hD
                refine W.widen (k := 1 + (nwj - nw)) (n := 5 + 5 * (nwj - nw)) (by omega) (by omega) ?_
                refine lv_dup hx hb dX6_pass_133 rfl ?_
                have hFc := gw_free (wc := [(q_55, .inr (7, [.int 0, .int 0, .int 0, .int 0, .int 0]))]) hD [6] rfl
                refine va_callv (va_runIN (As := []) (rest := [.ref q_55]) ⟨hx, hb, hml, hown, hts⟩ (met_X7_init l D cI cZ cW cO q_55) ⟨va_cnB 0 hts gX6_pass_X7_init_n50 rfl rfl rfl hR.2.2.1 (hts _ wd_X6_pass_11) (by decide +kernel) ⟨Nat.le_of_ble_eq_true rfl, Nat.le_of_ble_eq_true rfl⟩, rfl, (hts _ wd_X6_pass_12)⟩ (gw_psw hK hP hD (wc := [(q_55, .inr (7, [.int 0, .int 0, .int 0, .int 0, .int 0]))]) [6] (by decide) rfl rfl) rfl rfl hl.1 rfl (lv_room (Nat.le_of_ble_eq_true rfl)) dX6_pass_134 ⟨(by show _ ≤ 60; omega), (by show _ ≤ 300; omega)⟩) hS (fun q _ h => hFc q h) hFc (fun u_ t H1 locs ht hvm hw hB hz1 hk1 hS => ?_)
                have hB : va_P D vwCl [(q_55, .inr (7, [.int 0, .int 0, .int 0, .int 0, .int (-1)]))] t.heap := hB
                rw [ht] at hB
                obtain ⟨hP, hD⟩ := gw_upd (wc := [(q_55, .inr (7, [.int 0, .int 0, .int 0, .int 0, .int 0]))]) (w1 := [(q_55, .inr (7, [.int 0, .int 0, .int 0, .int 0, .int (-1)]))]) (ws' := (sW si fa ob op oc ow cI cW cO (Q 0) nb nq nr (sRf adj 0 nb) (sRf adj 1 nq) (sRf adj 2 nr) (sRf adj 3 nwj) (nI nwj) (nI day) co ++ (((q_55, .inr (7, [.int 0, .int 0, .int 0, .int 0, .int (-1)])) :: R) ++ sPl nb nq nr nwj adj (sEn cI (Qj 1) (Qj 2) (Qj 3) (Qj 4) (Qj 5) (Qj 6) (Qj 7) (Qj 8) (Qj 9) (Qj 11) (Qj 12) (Qj 13) ca sv (gM nw rl (fun _ => -1)))))) hP hD [6] rfl rfl hk1 hB rfl
                generalize H1 = H at hP hS ⊢
                have hP : va_P D vwCl (sW si fa ob op oc ow cI cW cO (Q 0) nb nq nr (sRf adj 0 nb) (sRf adj 1 nq) (sRf adj 2 nr) (sRf adj 3 nwj) (nI nwj) (nI day) co ++ (((q_55, .inr (7, [.int 0, .int 0, .int 0, .int 0, .int (-1)])) :: R) ++ sPl nb nq nr nwj adj (sEn cI (Qj 1) (Qj 2) (Qj 3) (Qj 4) (Qj 5) (Qj 6) (Qj 7) (Qj 8) (Qj 9) (Qj 11) (Qj 12) (Qj 13) ca sv (gM nw rl (fun _ => -1))))) _ := hP
                have hD : va_D A (sW si fa ob op oc ow cI cW cO (Q 0) nb nq nr (sRf adj 0 nb) (sRf adj 1 nq) (sRf adj 2 nr) (sRf adj 3 nwj) (nI nwj) (nI day) co ++ (((q_55, .inr (7, [.int 0, .int 0, .int 0, .int 0, .int (-1)])) :: R) ++ sPl nb nq nr nwj adj (sEn cI (Qj 1) (Qj 2) (Qj 3) (Qj 4) (Qj 5) (Qj 6) (Qj 7) (Qj 8) (Qj 9) (Qj 11) (Qj 12) (Qj 13) ca sv (gM nw rl (fun _ => -1))))) := hD
                refine lv_astore (lv' := [(7, .ref q_55), (6, .ref (adj (0, b))), (5, .ref (adj (1, i))), (4, .int (nI i)), (3, .int (nI nq)), (2, .ref op), (1, .int (nI nw)), (0, .ref si)]) hx hb dX6_pass_137 hl (by decide) rfl (fun ls hl => ?_)
                refine lv_aload hx hb dX6_pass_139 (lv_at hl 0 rfl) ?_
                refine lv_aload hx hb dX6_pass_141 (lv_at hl 2 rfl) ?_
                refine lv_iconst (v := 1) hx hb dX6_pass_143 (by decide) ?_
                obtain ⟨i_56, hi_56, si_56⟩ := sAt1 (k := i) hP (by first | assumption | omega)
                refine gw_top (y := nI 1) rfl ?_
                refine gw_iald hx hb hK hP i_56 0 (k := 1) hi_56 rfl (by first | decide | omega) (by decide) dX6_pass_144 ?_
                refine gw_top (y := Qj 6 i) rfl ?_
                refine gw_top (y := nI b) (by rw [hj6]; exact hbe) ?_
                refine va_put (D := D) (ci := 7) (v := .int (nI b)) (ty := .int) (C := RX7) (T := TX7) (N := 5) hx hb hts wc_X6_pass_X7 tyX7 tyX7_ok nmX7 hown hK hP hD hS 6 rfl rfl 0 (by decide) (hts _ wd_X6_pass_13) (fun _ h9 => h9) rfl (by decide +kernel) rfl rfl (Nat.le_of_ble_eq_true rfl) dX6_pass_145 (fun H locs hP hD hS => ?_)
                have hP : va_P D vwCl (sW si fa ob op oc ow cI cW cO (Q 0) nb nq nr (sRf adj 0 nb) (sRf adj 1 nq) (sRf adj 2 nr) (sRf adj 3 nwj) (nI nwj) (nI day) co ++ (((q_55, .inr (7, [.int (nI b), .int 0, .int 0, .int 0, .int (-1)])) :: R) ++ sPl nb nq nr nwj adj (sEn cI (Qj 1) (Qj 2) (Qj 3) (Qj 4) (Qj 5) (Qj 6) (Qj 7) (Qj 8) (Qj 9) (Qj 11) (Qj 12) (Qj 13) ca sv (gM nw rl (fun _ => -1))))) _ := hP
                have hD : va_D A (sW si fa ob op oc ow cI cW cO (Q 0) nb nq nr (sRf adj 0 nb) (sRf adj 1 nq) (sRf adj 2 nr) (sRf adj 3 nwj) (nI nwj) (nI day) co ++ (((q_55, .inr (7, [.int (nI b), .int 0, .int 0, .int 0, .int (-1)])) :: R) ++ sPl nb nq nr nwj adj (sEn cI (Qj 1) (Qj 2) (Qj 3) (Qj 4) (Qj 5) (Qj 6) (Qj 7) (Qj 8) (Qj 9) (Qj 11) (Qj 12) (Qj 13) ca sv (gM nw rl (fun _ => -1))))) := hD
                refine lv_aload hx hb dX6_pass_148 (lv_at hl 0 rfl) ?_
                refine lv_aload_n hx hb dX6_pass_150 rfl (lv_at hl 7 rfl) ?_
                refine va_get (D := D) (ci := 6) (v := .int (nI day)) (C := RX6) (T := TX6) (N := 8) hx hb hts wc_X6_pass_X6 hown hK hP 0 rfl rfl 6 (by decide) (hts _ wd_X6_pass_4) (fun _ h9 => h9) rfl dX6_pass_151 ?_
                refine gw_cut (X := Unit) (fun (zz : Unit) H locs ls => match zz with | _ => va_P D vwCl (sW si fa ob op oc ow cI cW cO (Q 0) nb nq nr (sRf adj 0 nb) (sRf adj 1 nq) (sRf adj 2 nr) (sRf adj 3 nwj) (nI nwj) (nI day) co ++ (((q_55, .inr (7, [.int (nI b), .int 0, .int 0, .int 0, .int (-1)])) :: R) ++ sPl nb nq nr nwj adj (sEn cI (Qj 1) (Qj 2) (Qj 3) (Qj 4) (Qj 5) (Qj 6) (Qj 7) (Qj 8) (Qj 9) (Qj 11) (Qj 12) (Qj 13) ca sv (gM nw rl (fun _ => -1))))) H ∧ va_D A (sW si fa ob op oc ow cI cW cO (Q 0) nb nq nr (sRf adj 0 nb) (sRf adj 1 nq) (sRf adj 2 nr) (sRf adj 3 nwj) (nI nwj) (nI day) co ++ (((q_55, .inr (7, [.int (nI b), .int 0, .int 0, .int 0, .int (-1)])) :: R) ++ sPl nb nq nr nwj adj (sEn cI (Qj 1) (Qj 2) (Qj 3) (Qj 4) (Qj 5) (Qj 6) (Qj 7) (Qj 8) (Qj 9) (Qj 11) (Qj 12) (Qj 13) ca sv (gM nw rl (fun _ => -1))))) ∧ va_S A s.heap H locs ∧ lv_has ls 8 [(7, .ref q_55), (6, .ref (adj (0, b))), (5, .ref (adj (1, i))), (4, .int (nI i)), (3, .int (nI nq)), (2, .ref op), (1, .int (nI nw)), (0, .ref si)] ∧ True) (fun (zz : Unit) ls => match zz with | _ => F0 m 164 ls [.int (if nI day - nI day / 3 * 3 = 0 then (2 : Int32) else 1), .ref q_55]) (1 + (nwj - nw)) (5 + 5 * (nwj - nw)) (fun hK164 => ?_) ?_
                · skip
                  refine lv_iconst (v := 3) hx hb dX6_pass_154 (by decide) ?_
                  refine lv_irem hx hb dX6_pass_155 (by decide) ?_
                  refine lv_if_ne (tgt := 163) hx hb dX6_pass_156 (by decide) (fun j2 => ?_) (fun j2 => ?_)
                  · skip
                    refine lv_iconst (v := 1) hx hb dX6_pass_163 (by decide) ?_
                    refine gw_top (y := if nI day - nI day / 3 * 3 = 0 then (2 : Int32) else 1) (by first | exact (if_pos j2).symm | exact (if_neg j2).symm) ?_
                    exact hK164 () _ _ _ ⟨hP, hD, hS, lv_sub hl [0, 1, 2, 3, 4, 5, 6, 7] rfl, trivial⟩
                  · skip
                    refine lv_iconst (v := 2) hx hb dX6_pass_159 (by decide) ?_
                    refine lv_goto (tgt := 164) hx hb dX6_pass_160 (by decide) ?_
                    refine gw_top (y := if nI day - nI day / 3 * 3 = 0 then (2 : Int32) else 1) (by first | exact (if_pos j2).symm | exact (if_neg j2).symm) ?_
                    exact hK164 () _ _ _ ⟨hP, hD, hS, lv_sub hl [0, 1, 2, 3, 4, 5, 6, 7] rfl, trivial⟩
                · skip
                  rintro - H locs ls ⟨hP, hD, hS, hl, -⟩
                  have hP : va_P D vwCl (sW si fa ob op oc ow cI cW cO (Q 0) nb nq nr (sRf adj 0 nb) (sRf adj 1 nq) (sRf adj 2 nr) (sRf adj 3 nwj) (nI nwj) (nI day) co ++ (((q_55, .inr (7, [.int (nI b), .int 0, .int 0, .int 0, .int (-1)])) :: R) ++ sPl nb nq nr nwj adj (sEn cI (Qj 1) (Qj 2) (Qj 3) (Qj 4) (Qj 5) (Qj 6) (Qj 7) (Qj 8) (Qj 9) (Qj 11) (Qj 12) (Qj 13) ca sv (gM nw rl (fun _ => -1))))) H := hP
                  have hD : va_D A (sW si fa ob op oc ow cI cW cO (Q 0) nb nq nr (sRf adj 0 nb) (sRf adj 1 nq) (sRf adj 2 nr) (sRf adj 3 nwj) (nI nwj) (nI day) co ++ (((q_55, .inr (7, [.int (nI b), .int 0, .int 0, .int 0, .int (-1)])) :: R) ++ sPl nb nq nr nwj adj (sEn cI (Qj 1) (Qj 2) (Qj 3) (Qj 4) (Qj 5) (Qj 6) (Qj 7) (Qj 8) (Qj 9) (Qj 11) (Qj 12) (Qj 13) ca sv (gM nw rl (fun _ => -1))))) := hD
                  have hl : lv_has ls 8 [(7, .ref q_55), (6, .ref (adj (0, b))), (5, .ref (adj (1, i))), (4, .int (nI i)), (3, .int (nI nq)), (2, .ref op), (1, .int (nI nw)), (0, .ref si)] := hl
                  refine lv_aload hx hb dX6_pass_164 (lv_at hl 2 rfl) ?_
                  refine lv_iconst (v := 0) hx hb dX6_pass_166 (by decide) ?_
                  obtain ⟨i_58, hi_58, si_58⟩ := sAt1 (k := i) hP (by first | assumption | omega)
                  refine gw_top (y := nI 0) rfl ?_
                  refine gw_iald hx hb hK hP i_58 0 (k := 0) hi_58 rfl (by first | decide | omega) (by decide) dX6_pass_167 ?_
                  refine gw_top (y := Qj 5 i) rfl ?_
                  refine gw_top (y := Qi 5 i) (by rw [hj5]) ?_
                  refine lv_iconst (v := 2) hx hb dX6_pass_168 (by decide) ?_
                  refine lv_idiv hx hb dX6_pass_169 (by decide) ?_
                  refine lv_iadd hx hb dX6_pass_170 ?_
                  refine gw_top (y := gSize (Qi 5 i) day) sp_size ?_
                  refine va_put (D := D) (ci := 7) (v := .int (gSize (Qi 5 i) day)) (ty := .int) (C := RX7) (T := TX7) (N := 5) hx hb hts wc_X6_pass_X7 tyX7 tyX7_ok nmX7 hown hK hP hD hS 6 rfl rfl 1 (by decide) (hts _ wd_X6_pass_14) (fun _ h9 => h9) rfl (by decide +kernel) rfl rfl (Nat.le_of_ble_eq_true rfl) dX6_pass_171 (fun H locs hP hD hS => ?_)
                  have hP : va_P D vwCl (sW si fa ob op oc ow cI cW cO (Q 0) nb nq nr (sRf adj 0 nb) (sRf adj 1 nq) (sRf adj 2 nr) (sRf adj 3 nwj) (nI nwj) (nI day) co ++ (((q_55, .inr (7, [.int (nI b), .int (gSize (Qi 5 i) day), .int 0, .int 0, .int (-1)])) :: R) ++ sPl nb nq nr nwj adj (sEn cI (Qj 1) (Qj 2) (Qj 3) (Qj 4) (Qj 5) (Qj 6) (Qj 7) (Qj 8) (Qj 9) (Qj 11) (Qj 12) (Qj 13) ca sv (gM nw rl (fun _ => -1))))) _ := hP
                  have hD : va_D A (sW si fa ob op oc ow cI cW cO (Q 0) nb nq nr (sRf adj 0 nb) (sRf adj 1 nq) (sRf adj 2 nr) (sRf adj 3 nwj) (nI nwj) (nI day) co ++ (((q_55, .inr (7, [.int (nI b), .int (gSize (Qi 5 i) day), .int 0, .int 0, .int (-1)])) :: R) ++ sPl nb nq nr nwj adj (sEn cI (Qj 1) (Qj 2) (Qj 3) (Qj 4) (Qj 5) (Qj 6) (Qj 7) (Qj 8) (Qj 9) (Qj 11) (Qj 12) (Qj 13) ca sv (gM nw rl (fun _ => -1))))) := hD
                  refine lv_aload hx hb dX6_pass_174 (lv_at hl 0 rfl) ?_
                  refine lv_bipush (v := 7) hx hb dX6_pass_176 (by decide) ?_
                  refine lv_aload hx hb dX6_pass_178 (lv_at hl 1 rfl) ?_
                  refine lv_iconst (v := 3) hx hb dX6_pass_180 (by decide) ?_
                  obtain ⟨i_59, hi_59, si_59⟩ := sAt0 (k := b) hP (by first | assumption | omega)
                  refine gw_top (y := nI 3) rfl ?_
                  refine gw_iald hx hb hK hP i_59 0 (k := 3) hi_59 rfl (by first | decide | omega) (by decide) dX6_pass_181 ?_
                  refine gw_top (y := Qj 4 b) rfl ?_
                  refine lv_imul hx hb dX6_pass_182 ?_
                  refine lv_iconst (v := 3) hx hb dX6_pass_183 (by decide) ?_
                  refine lv_aload hx hb dX6_pass_184 (lv_at hl 0 rfl) ?_
                  refine va_get (D := D) (ci := 7) (v := .int (gSize (Qi 5 i) day)) (C := RX7) (T := TX7) (N := 5) hx hb hts wc_X6_pass_X7 hown hK hP 6 rfl rfl 1 (by decide) (hts _ wd_X6_pass_14) (fun _ h9 => h9) rfl dX6_pass_186 ?_
                  refine lv_imul hx hb dX6_pass_189 ?_
                  refine lv_iadd hx hb dX6_pass_190 ?_
                  refine lv_bipush (v := 10) hx hb dX6_pass_191 (by decide) ?_
                  refine lv_irem hx hb dX6_pass_193 (by decide) ?_
                  refine gw_cut (X := Unit) (fun (zz : Unit) H locs ls => match zz with | _ => va_P D vwCl (sW si fa ob op oc ow cI cW cO (Q 0) nb nq nr (sRf adj 0 nb) (sRf adj 1 nq) (sRf adj 2 nr) (sRf adj 3 nwj) (nI nwj) (nI day) co ++ (((q_55, .inr (7, [.int (nI b), .int (gSize (Qi 5 i) day), .int (gCr Qj b (gSize (Qi 5 i) day)), .int 0, .int (-1)])) :: R) ++ sPl nb nq nr nwj adj (sEn cI (Qj 1) (Qj 2) (Qj 3) (Qj 4) (Qj 5) (Qj 6) (Qj 7) (Qj 8) (Qj 9) (Qj 11) (Qj 12) (Qj 13) ca sv (gM nw rl (fun _ => -1))))) H ∧ va_D A (sW si fa ob op oc ow cI cW cO (Q 0) nb nq nr (sRf adj 0 nb) (sRf adj 1 nq) (sRf adj 2 nr) (sRf adj 3 nwj) (nI nwj) (nI day) co ++ (((q_55, .inr (7, [.int (nI b), .int (gSize (Qi 5 i) day), .int (gCr Qj b (gSize (Qi 5 i) day)), .int 0, .int (-1)])) :: R) ++ sPl nb nq nr nwj adj (sEn cI (Qj 1) (Qj 2) (Qj 3) (Qj 4) (Qj 5) (Qj 6) (Qj 7) (Qj 8) (Qj 9) (Qj 11) (Qj 12) (Qj 13) ca sv (gM nw rl (fun _ => -1))))) ∧ va_S A s.heap H locs ∧ lv_has ls 8 [(7, .ref q_55), (6, .ref (adj (0, b))), (5, .ref (adj (1, i))), (4, .int (nI i)), (3, .int (nI nq)), (2, .ref op), (1, .int (nI nw)), (0, .ref si)] ∧ True) (fun (zz : Unit) ls => match zz with | _ => F0 m 209 ls []) (1 + (nwj - nw)) (5 + 5 * (nwj - nw)) (fun hK209 => ?_) ?_
                  · skip
                    refine lv_aload hx hb dX6_pass_194 (lv_at hl 1 rfl) ?_
                    refine lv_iconst (v := 1) hx hb dX6_pass_196 (by decide) ?_
                    obtain ⟨i_60, hi_60, si_60⟩ := sAt0 (k := b) hP (by first | assumption | omega)
                    refine gw_top (y := nI 1) rfl ?_
                    refine gw_iald hx hb hK hP i_60 0 (k := 1) hi_60 rfl (by first | decide | omega) (by decide) dX6_pass_197 ?_
                    refine gw_top (y := Qj 2 b) rfl ?_
                    refine lv_icmp_ge (tgt := 205) hx hb dX6_pass_198 (by decide) (fun dc => ?_) (fun dc => ?_)
                    · skip
                      refine lv_iconst (v := 0) hx hb dX6_pass_205 (by decide) ?_
                      refine va_put (D := D) (ci := 7) (v := .int 0) (ty := .boolean) (C := RX7) (T := TX7) (N := 5) hx hb hts wc_X6_pass_X7 tyX7 tyX7_ok nmX7 hown hK hP hD hS 6 rfl rfl 2 (by decide) (hts _ wd_X6_pass_15) (fun _ h9 => h9) rfl (by decide +kernel) rfl rfl (Nat.le_of_ble_eq_true rfl) dX6_pass_206 (fun H locs hP hD hS => ?_)
                      have hP : va_P D vwCl (sW si fa ob op oc ow cI cW cO (Q 0) nb nq nr (sRf adj 0 nb) (sRf adj 1 nq) (sRf adj 2 nr) (sRf adj 3 nwj) (nI nwj) (nI day) co ++ (((q_55, .inr (7, [.int (nI b), .int (gSize (Qi 5 i) day), .int 0, .int 0, .int (-1)])) :: R) ++ sPl nb nq nr nwj adj (sEn cI (Qj 1) (Qj 2) (Qj 3) (Qj 4) (Qj 5) (Qj 6) (Qj 7) (Qj 8) (Qj 9) (Qj 11) (Qj 12) (Qj 13) ca sv (gM nw rl (fun _ => -1))))) _ := hP
                      have hD : va_D A (sW si fa ob op oc ow cI cW cO (Q 0) nb nq nr (sRf adj 0 nb) (sRf adj 1 nq) (sRf adj 2 nr) (sRf adj 3 nwj) (nI nwj) (nI day) co ++ (((q_55, .inr (7, [.int (nI b), .int (gSize (Qi 5 i) day), .int 0, .int 0, .int (-1)])) :: R) ++ sPl nb nq nr nwj adj (sEn cI (Qj 1) (Qj 2) (Qj 3) (Qj 4) (Qj 5) (Qj 6) (Qj 7) (Qj 8) (Qj 9) (Qj 11) (Qj 12) (Qj 13) ca sv (gM nw rl (fun _ => -1))))) := hD
                      have hcr : gCr Qj b (gSize (Qi 5 i) day) = 0 := by first | exact if_pos (Int32.not_le.mp dc) | exact if_neg (Int32.not_lt.mpr dc)
                      have hP : va_P D vwCl (sW si fa ob op oc ow cI cW cO (Q 0) nb nq nr (sRf adj 0 nb) (sRf adj 1 nq) (sRf adj 2 nr) (sRf adj 3 nwj) (nI nwj) (nI day) co ++ (((q_55, .inr (7, [.int (nI b), .int (gSize (Qi 5 i) day), .int (gCr Qj b (gSize (Qi 5 i) day)), .int 0, .int (-1)])) :: R) ++ sPl nb nq nr nwj adj (sEn cI (Qj 1) (Qj 2) (Qj 3) (Qj 4) (Qj 5) (Qj 6) (Qj 7) (Qj 8) (Qj 9) (Qj 11) (Qj 12) (Qj 13) ca sv (gM nw rl (fun _ => -1))))) H := by rw [hcr]; exact hP
                      have hD : va_D A (sW si fa ob op oc ow cI cW cO (Q 0) nb nq nr (sRf adj 0 nb) (sRf adj 1 nq) (sRf adj 2 nr) (sRf adj 3 nwj) (nI nwj) (nI day) co ++ (((q_55, .inr (7, [.int (nI b), .int (gSize (Qi 5 i) day), .int (gCr Qj b (gSize (Qi 5 i) day)), .int 0, .int (-1)])) :: R) ++ sPl nb nq nr nwj adj (sEn cI (Qj 1) (Qj 2) (Qj 3) (Qj 4) (Qj 5) (Qj 6) (Qj 7) (Qj 8) (Qj 9) (Qj 11) (Qj 12) (Qj 13) ca sv (gM nw rl (fun _ => -1))))) := by rw [hcr]; exact hD
                      exact hK209 () _ _ _ ⟨hP, hD, hS, lv_sub hl [0, 1, 2, 3, 4, 5, 6, 7] rfl, trivial⟩
                    · skip
                      refine lv_iconst (v := 1) hx hb dX6_pass_201 (by decide) ?_
                      refine lv_goto (tgt := 206) hx hb dX6_pass_202 (by decide) ?_
                      refine va_put (D := D) (ci := 7) (v := .int 1) (ty := .boolean) (C := RX7) (T := TX7) (N := 5) hx hb hts wc_X6_pass_X7 tyX7 tyX7_ok nmX7 hown hK hP hD hS 6 rfl rfl 2 (by decide) (hts _ wd_X6_pass_15) (fun _ h9 => h9) rfl (by decide +kernel) rfl rfl (Nat.le_of_ble_eq_true rfl) dX6_pass_206 (fun H locs hP hD hS => ?_)
                      have hP : va_P D vwCl (sW si fa ob op oc ow cI cW cO (Q 0) nb nq nr (sRf adj 0 nb) (sRf adj 1 nq) (sRf adj 2 nr) (sRf adj 3 nwj) (nI nwj) (nI day) co ++ (((q_55, .inr (7, [.int (nI b), .int (gSize (Qi 5 i) day), .int 1, .int 0, .int (-1)])) :: R) ++ sPl nb nq nr nwj adj (sEn cI (Qj 1) (Qj 2) (Qj 3) (Qj 4) (Qj 5) (Qj 6) (Qj 7) (Qj 8) (Qj 9) (Qj 11) (Qj 12) (Qj 13) ca sv (gM nw rl (fun _ => -1))))) _ := hP
                      have hD : va_D A (sW si fa ob op oc ow cI cW cO (Q 0) nb nq nr (sRf adj 0 nb) (sRf adj 1 nq) (sRf adj 2 nr) (sRf adj 3 nwj) (nI nwj) (nI day) co ++ (((q_55, .inr (7, [.int (nI b), .int (gSize (Qi 5 i) day), .int 1, .int 0, .int (-1)])) :: R) ++ sPl nb nq nr nwj adj (sEn cI (Qj 1) (Qj 2) (Qj 3) (Qj 4) (Qj 5) (Qj 6) (Qj 7) (Qj 8) (Qj 9) (Qj 11) (Qj 12) (Qj 13) ca sv (gM nw rl (fun _ => -1))))) := hD
                      have hcr : gCr Qj b (gSize (Qi 5 i) day) = 1 := by first | exact if_pos (Int32.not_le.mp dc) | exact if_neg (Int32.not_lt.mpr dc)
                      have hP : va_P D vwCl (sW si fa ob op oc ow cI cW cO (Q 0) nb nq nr (sRf adj 0 nb) (sRf adj 1 nq) (sRf adj 2 nr) (sRf adj 3 nwj) (nI nwj) (nI day) co ++ (((q_55, .inr (7, [.int (nI b), .int (gSize (Qi 5 i) day), .int (gCr Qj b (gSize (Qi 5 i) day)), .int 0, .int (-1)])) :: R) ++ sPl nb nq nr nwj adj (sEn cI (Qj 1) (Qj 2) (Qj 3) (Qj 4) (Qj 5) (Qj 6) (Qj 7) (Qj 8) (Qj 9) (Qj 11) (Qj 12) (Qj 13) ca sv (gM nw rl (fun _ => -1))))) H := by rw [hcr]; exact hP
                      have hD : va_D A (sW si fa ob op oc ow cI cW cO (Q 0) nb nq nr (sRf adj 0 nb) (sRf adj 1 nq) (sRf adj 2 nr) (sRf adj 3 nwj) (nI nwj) (nI day) co ++ (((q_55, .inr (7, [.int (nI b), .int (gSize (Qi 5 i) day), .int (gCr Qj b (gSize (Qi 5 i) day)), .int 0, .int (-1)])) :: R) ++ sPl nb nq nr nwj adj (sEn cI (Qj 1) (Qj 2) (Qj 3) (Qj 4) (Qj 5) (Qj 6) (Qj 7) (Qj 8) (Qj 9) (Qj 11) (Qj 12) (Qj 13) ca sv (gM nw rl (fun _ => -1))))) := by rw [hcr]; exact hD
                      exact hK209 () _ _ _ ⟨hP, hD, hS, lv_sub hl [0, 1, 2, 3, 4, 5, 6, 7] rfl, trivial⟩
                  · skip
                    rintro - H locs ls ⟨hP, hD, hS, hl, -⟩
                    have hP : va_P D vwCl (sW si fa ob op oc ow cI cW cO (Q 0) nb nq nr (sRf adj 0 nb) (sRf adj 1 nq) (sRf adj 2 nr) (sRf adj 3 nwj) (nI nwj) (nI day) co ++ (((q_55, .inr (7, [.int (nI b), .int (gSize (Qi 5 i) day), .int (gCr Qj b (gSize (Qi 5 i) day)), .int 0, .int (-1)])) :: R) ++ sPl nb nq nr nwj adj (sEn cI (Qj 1) (Qj 2) (Qj 3) (Qj 4) (Qj 5) (Qj 6) (Qj 7) (Qj 8) (Qj 9) (Qj 11) (Qj 12) (Qj 13) ca sv (gM nw rl (fun _ => -1))))) H := hP
                    have hD : va_D A (sW si fa ob op oc ow cI cW cO (Q 0) nb nq nr (sRf adj 0 nb) (sRf adj 1 nq) (sRf adj 2 nr) (sRf adj 3 nwj) (nI nwj) (nI day) co ++ (((q_55, .inr (7, [.int (nI b), .int (gSize (Qi 5 i) day), .int (gCr Qj b (gSize (Qi 5 i) day)), .int 0, .int (-1)])) :: R) ++ sPl nb nq nr nwj adj (sEn cI (Qj 1) (Qj 2) (Qj 3) (Qj 4) (Qj 5) (Qj 6) (Qj 7) (Qj 8) (Qj 9) (Qj 11) (Qj 12) (Qj 13) ca sv (gM nw rl (fun _ => -1))))) := hD
                    have hl : lv_has ls 8 [(7, .ref q_55), (6, .ref (adj (0, b))), (5, .ref (adj (1, i))), (4, .int (nI i)), (3, .int (nI nq)), (2, .ref op), (1, .int (nI nw)), (0, .ref si)] := hl
                    refine lv_aload_n hx hb dX6_pass_209 rfl (lv_at hl 7 rfl) ?_
                    refine va_get (D := D) (ci := 6) (v := .ref ow) (C := RX6) (T := TX6) (N := 8) hx hb hts wc_X6_pass_X6 hown hK hP 0 rfl rfl 4 (by decide) (hts _ wd_X6_pass_5) (fun _ h9 => h9) rfl dX6_pass_210 ?_
                    refine lv_aload_n hx hb dX6_pass_213 rfl (lv_at hl 7 rfl) ?_
                    refine va_get (D := D) (ci := 6) (v := .int (nI nwj)) (C := RX6) (T := TX6) (N := 8) hx hb hts wc_X6_pass_X6 hown hK hP 0 rfl rfl 5 (by decide) (hts _ wd_X6_pass_1) (fun _ h9 => h9) rfl dX6_pass_214 ?_
                    refine lv_aload hx hb dX6_pass_217 (lv_at hl 0 rfl) ?_
                    refine gw_astW hx hb hK hP hD hS 5 2 6 7 (k := nwj) rfl rfl rfl rfl (by omega) (by decide) dX6_pass_219 (fun H locs hP hD hS => ?_)
                    have hP : va_P D vwCl (sW si fa ob op oc ow cI cW cO (Q 0) nb nq nr (sRf adj 0 nb) (sRf adj 1 nq) (sRf adj 2 nr) (va_up (sRf adj 3 nwj) nwj (some q_55)) (nI nwj) (nI day) co ++ (((q_55, .inr (7, [.int (nI b), .int (gSize (Qi 5 i) day), .int (gCr Qj b (gSize (Qi 5 i) day)), .int 0, .int (-1)])) :: R) ++ sPl nb nq nr nwj adj (sEn cI (Qj 1) (Qj 2) (Qj 3) (Qj 4) (Qj 5) (Qj 6) (Qj 7) (Qj 8) (Qj 9) (Qj 11) (Qj 12) (Qj 13) ca sv (gM nw rl (fun _ => -1))))) _ := hP
                    have hD : va_D A (sW si fa ob op oc ow cI cW cO (Q 0) nb nq nr (sRf adj 0 nb) (sRf adj 1 nq) (sRf adj 2 nr) (va_up (sRf adj 3 nwj) nwj (some q_55)) (nI nwj) (nI day) co ++ (((q_55, .inr (7, [.int (nI b), .int (gSize (Qi 5 i) day), .int (gCr Qj b (gSize (Qi 5 i) day)), .int 0, .int (-1)])) :: R) ++ sPl nb nq nr nwj adj (sEn cI (Qj 1) (Qj 2) (Qj 3) (Qj 4) (Qj 5) (Qj 6) (Qj 7) (Qj 8) (Qj 9) (Qj 11) (Qj 12) (Qj 13) ca sv (gM nw rl (fun _ => -1))))) := hD
                    refine lv_aload_n hx hb dX6_pass_220 rfl (lv_at hl 7 rfl) ?_
                    refine lv_dup hx hb dX6_pass_221 rfl ?_
                    refine va_get (D := D) (ci := 6) (v := .int (nI nwj)) (C := RX6) (T := TX6) (N := 8) hx hb hts wc_X6_pass_X6 hown hK hP 0 rfl rfl 5 (by decide) (hts _ wd_X6_pass_1) (fun _ h9 => h9) rfl dX6_pass_222 ?_
                    refine lv_iconst (v := 1) hx hb dX6_pass_225 (by decide) ?_
                    refine lv_iadd hx hb dX6_pass_226 ?_
                    refine gw_top (y := nI (nwj + 1)) (nI_add nwj 1) ?_
                    refine va_put (D := D) (ci := 6) (v := .int (nI (nwj + 1))) (ty := .int) (C := RX6) (T := TX6) (N := 8) hx hb hts wc_X6_pass_X6 tyX6 tyX6_ok nmX6 hown hK hP hD hS 0 rfl rfl 5 (by decide) (hts _ wd_X6_pass_1) (fun _ h9 => h9) rfl (by decide +kernel) rfl rfl (Nat.le_of_ble_eq_true rfl) dX6_pass_227 (fun H locs hP hD hS => ?_)
                    have hP : va_P D vwCl (sW si fa ob op oc ow cI cW cO (Q 0) nb nq nr (sRf adj 0 nb) (sRf adj 1 nq) (sRf adj 2 nr) (va_up (sRf adj 3 nwj) nwj (some q_55)) (nI (nwj + 1)) (nI day) co ++ (((q_55, .inr (7, [.int (nI b), .int (gSize (Qi 5 i) day), .int (gCr Qj b (gSize (Qi 5 i) day)), .int 0, .int (-1)])) :: R) ++ sPl nb nq nr nwj adj (sEn cI (Qj 1) (Qj 2) (Qj 3) (Qj 4) (Qj 5) (Qj 6) (Qj 7) (Qj 8) (Qj 9) (Qj 11) (Qj 12) (Qj 13) ca sv (gM nw rl (fun _ => -1))))) _ := hP
                    have hD : va_D A (sW si fa ob op oc ow cI cW cO (Q 0) nb nq nr (sRf adj 0 nb) (sRf adj 1 nq) (sRf adj 2 nr) (va_up (sRf adj 3 nwj) nwj (some q_55)) (nI (nwj + 1)) (nI day) co ++ (((q_55, .inr (7, [.int (nI b), .int (gSize (Qi 5 i) day), .int (gCr Qj b (gSize (Qi 5 i) day)), .int 0, .int (-1)])) :: R) ++ sPl nb nq nr nwj adj (sEn cI (Qj 1) (Qj 2) (Qj 3) (Qj 4) (Qj 5) (Qj 6) (Qj 7) (Qj 8) (Qj 9) (Qj 11) (Qj 12) (Qj 13) ca sv (gM nw rl (fun _ => -1))))) := hD
                    refine lv_aload hx hb dX6_pass_230 (lv_at hl 1 rfl) ?_
                    refine lv_iconst (v := 3) hx hb dX6_pass_232 (by decide) ?_
                    refine lv_dup2_11 hx hb dX6_pass_233 rfl rfl ?_
                    obtain ⟨i_62, hi_62, si_62⟩ := sAt0 (k := b) hP (by first | assumption | omega)
                    refine gw_top (y := nI 3) rfl ?_
                    refine gw_iald hx hb hK hP i_62 0 (k := 3) hi_62 rfl (by first | decide | omega) (by decide) dX6_pass_234 ?_
                    refine gw_top (y := Qj 4 b) rfl ?_
                    refine lv_iconst (v := 1) hx hb dX6_pass_235 (by decide) ?_
                    refine lv_iadd hx hb dX6_pass_236 ?_
                    obtain ⟨i_63, hi_63, si_63⟩ := sAt0 (k := b) hP (by first | assumption | omega)
                    refine gw_top2 (y := nI 3) rfl ?_
                    refine gw_iast hx hb hK hP hD hS i_63 0 (k := 3) hi_63 rfl (by first | decide | omega) (by decide) dX6_pass_237 (fun H locs hP hD hS => ?_)
                    rw [si_63, sU0_3] at hP hD
                    have hP : va_P D vwCl (sW si fa ob op oc ow cI cW cO (Q 0) nb nq nr (sRf adj 0 nb) (sRf adj 1 nq) (sRf adj 2 nr) (va_up (sRf adj 3 nwj) nwj (some q_55)) (nI (nwj + 1)) (nI day) co ++ (((q_55, .inr (7, [.int (nI b), .int (gSize (Qi 5 i) day), .int (gCr Qj b (gSize (Qi 5 i) day)), .int 0, .int (-1)])) :: R) ++ sPl nb nq nr nwj adj (sEn cI (Qj 1) (Qj 2) (Qj 3) (upd (Qj 4) b ((Qj 4 b) + 1)) (Qj 5) (Qj 6) (Qj 7) (Qj 8) (Qj 9) (Qj 11) (Qj 12) (Qj 13) ca sv (gM nw rl (fun _ => -1))))) _ := hP
                    have hD : va_D A (sW si fa ob op oc ow cI cW cO (Q 0) nb nq nr (sRf adj 0 nb) (sRf adj 1 nq) (sRf adj 2 nr) (va_up (sRf adj 3 nwj) nwj (some q_55)) (nI (nwj + 1)) (nI day) co ++ (((q_55, .inr (7, [.int (nI b), .int (gSize (Qi 5 i) day), .int (gCr Qj b (gSize (Qi 5 i) day)), .int 0, .int (-1)])) :: R) ++ sPl nb nq nr nwj adj (sEn cI (Qj 1) (Qj 2) (Qj 3) (upd (Qj 4) b ((Qj 4 b) + 1)) (Qj 5) (Qj 6) (Qj 7) (Qj 8) (Qj 9) (Qj 11) (Qj 12) (Qj 13) ca sv (gM nw rl (fun _ => -1))))) := hD
                    refine lv_aload hx hb dX6_pass_238 (lv_at hl 1 rfl) ?_
                    refine lv_iconst (v := 2) hx hb dX6_pass_240 (by decide) ?_
                    refine lv_aload hx hb dX6_pass_241 (lv_at hl 1 rfl) ?_
                    refine lv_iconst (v := 2) hx hb dX6_pass_243 (by decide) ?_
                    obtain ⟨i_64, hi_64, si_64⟩ := sAt0 (k := b) hP (by first | assumption | omega)
                    refine gw_top (y := nI 2) rfl ?_
                    refine gw_iald hx hb hK hP i_64 0 (k := 2) hi_64 rfl (by first | decide | omega) (by decide) dX6_pass_244 ?_
                    refine gw_top (y := Qj 3 b) rfl ?_
                    refine lv_aload hx hb dX6_pass_245 (lv_at hl 0 rfl) ?_
                    refine va_get (D := D) (ci := 7) (v := .int (gSize (Qi 5 i) day)) (C := RX7) (T := TX7) (N := 5) hx hb hts wc_X6_pass_X7 hown hK hP 6 rfl rfl 1 (by decide) (hts _ wd_X6_pass_14) (fun _ h9 => h9) rfl dX6_pass_247 ?_
                    refine lv_icmp_ge (tgt := 257) hx hb dX6_pass_250 (by decide) (fun ds => ?_) (fun ds => ?_)
                    · skip
                      refine lv_aload hx hb dX6_pass_257 (lv_at hl 1 rfl) ?_
                      refine lv_iconst (v := 2) hx hb dX6_pass_259 (by decide) ?_
                      obtain ⟨i_66, hi_66, si_66⟩ := sAt0 (k := b) hP (by first | assumption | omega)
                      refine gw_top (y := nI 2) rfl ?_
                      refine gw_iald hx hb hK hP i_66 0 (k := 2) hi_66 rfl (by first | decide | omega) (by decide) dX6_pass_260 ?_
                      refine gw_top (y := Qj 3 b) rfl ?_
                      refine lv_aload hx hb dX6_pass_261 (lv_at hl 0 rfl) ?_
                      refine va_get (D := D) (ci := 7) (v := .int (gSize (Qi 5 i) day)) (C := RX7) (T := TX7) (N := 5) hx hb hts wc_X6_pass_X7 hown hK hP 6 rfl rfl 1 (by decide) (hts _ wd_X6_pass_14) (fun _ h9 => h9) rfl dX6_pass_263 ?_
                      refine lv_isub hx hb dX6_pass_266 ?_
                      refine gw_top (y := if 0 < Qj 3 b - gSize (Qi 5 i) day then Qj 3 b - gSize (Qi 5 i) day else 0) (by first | exact sp_st1 (h3j b hbb) (gSize_in (hsi i)) ds | exact sp_st2 (h3j b hbb) (gSize_in (hsi i)) ds) ?_
                      obtain ⟨i_67, hi_67, si_67⟩ := sAt0 (k := b) hP (by first | assumption | omega)
                      refine gw_top2 (y := nI 2) rfl ?_
                      refine gw_iast hx hb hK hP hD hS i_67 0 (k := 2) hi_67 rfl (by first | decide | omega) (by decide) dX6_pass_267 (fun H locs hP hD hS => ?_)
                      rw [si_67, sU0_2] at hP hD
                      have hP : va_P D vwCl (sW si fa ob op oc ow cI cW cO (Q 0) nb nq nr (sRf adj 0 nb) (sRf adj 1 nq) (sRf adj 2 nr) (va_up (sRf adj 3 nwj) nwj (some q_55)) (nI (nwj + 1)) (nI day) co ++ (((q_55, .inr (7, [.int (nI b), .int (gSize (Qi 5 i) day), .int (gCr Qj b (gSize (Qi 5 i) day)), .int 0, .int (-1)])) :: R) ++ sPl nb nq nr nwj adj (sEn cI (Qj 1) (Qj 2) (upd (Qj 3) b (if 0 < Qj 3 b - gSize (Qi 5 i) day then Qj 3 b - gSize (Qi 5 i) day else 0)) (upd (Qj 4) b ((Qj 4 b) + 1)) (Qj 5) (Qj 6) (Qj 7) (Qj 8) (Qj 9) (Qj 11) (Qj 12) (Qj 13) ca sv (gM nw rl (fun _ => -1))))) _ := hP
                      have hD : va_D A (sW si fa ob op oc ow cI cW cO (Q 0) nb nq nr (sRf adj 0 nb) (sRf adj 1 nq) (sRf adj 2 nr) (va_up (sRf adj 3 nwj) nwj (some q_55)) (nI (nwj + 1)) (nI day) co ++ (((q_55, .inr (7, [.int (nI b), .int (gSize (Qi 5 i) day), .int (gCr Qj b (gSize (Qi 5 i) day)), .int 0, .int (-1)])) :: R) ++ sPl nb nq nr nwj adj (sEn cI (Qj 1) (Qj 2) (upd (Qj 3) b (if 0 < Qj 3 b - gSize (Qi 5 i) day then Qj 3 b - gSize (Qi 5 i) day else 0)) (upd (Qj 4) b ((Qj 4 b) + 1)) (Qj 5) (Qj 6) (Qj 7) (Qj 8) (Qj 9) (Qj 11) (Qj 12) (Qj 13) ca sv (gM nw rl (fun _ => -1))))) := hD
                      obtain ⟨hP, hD⟩ := gPD_key (key := (3, nwj)) sK_n3 (sK_p3 _ _ _ _) hP hD
                      rw [sU_new, sRf_new, sp_rl (by omega)] at hP hD
                      have hP : va_P D vwCl (sW si fa ob op oc ow cI cW cO (Q 0) nb nq nr (sRf (adU3 adj nwj q_55) 0 nb) (sRf (adU3 adj nwj q_55) 1 nq) (sRf (adU3 adj nwj q_55) 2 nr) (sRf (adU3 adj nwj q_55) 3 (nwj + 1)) (nI (nwj + 1)) (nI day) co ++ (R ++ sPl nb nq nr (nwj + 1) (adU3 adj nwj q_55) (sEn cI (Qj 1) (Qj 2) (upd (Qj 3) b (if 0 < Qj 3 b - gSize (Qi 5 i) day then Qj 3 b - gSize (Qi 5 i) day else 0)) (upd (Qj 4) b ((Qj 4 b) + 1)) (Qj 5) (Qj 6) (Qj 7) (Qj 8) (upd (Qj 9) nwj (nI b)) (upd (Qj 11) nwj (gSize (Qi 5 i) day)) (upd (Qj 12) nwj (gCr Qj b (gSize (Qi 5 i) day))) (upd (Qj 13) nwj 0) ca sv (gM nw rl (fun _ => -1))))) _ := hP
                      have hD : va_D A (sW si fa ob op oc ow cI cW cO (Q 0) nb nq nr (sRf (adU3 adj nwj q_55) 0 nb) (sRf (adU3 adj nwj q_55) 1 nq) (sRf (adU3 adj nwj q_55) 2 nr) (sRf (adU3 adj nwj q_55) 3 (nwj + 1)) (nI (nwj + 1)) (nI day) co ++ (R ++ sPl nb nq nr (nwj + 1) (adU3 adj nwj q_55) (sEn cI (Qj 1) (Qj 2) (upd (Qj 3) b (if 0 < Qj 3 b - gSize (Qi 5 i) day then Qj 3 b - gSize (Qi 5 i) day else 0)) (upd (Qj 4) b ((Qj 4 b) + 1)) (Qj 5) (Qj 6) (Qj 7) (Qj 8) (upd (Qj 9) nwj (nI b)) (upd (Qj 11) nwj (gSize (Qi 5 i) day)) (upd (Qj 12) nwj (gCr Qj b (gSize (Qi 5 i) day))) (upd (Qj 13) nwj 0) ca sv (gM nw rl (fun _ => -1))))) := hD
                      have hl : lv_has ls 8 [(7, .ref q_55), (6, .ref ((adU3 adj nwj q_55) (0, b))), (5, .ref ((adU3 adj nwj q_55) (1, i))), (4, .int (nI i)), (3, .int (nI nq)), (2, .ref op), (1, .int (nI nw)), (0, .ref si)] := hl
                      refine lv_aload hx hb dX6_pass_268 (lv_at hl 2 rfl) ?_
                      refine lv_iconst (v := 3) hx hb dX6_pass_270 (by decide) ?_
                      refine lv_dup2_11 hx hb dX6_pass_271 rfl rfl ?_
                      obtain ⟨i_68, hi_68, si_68⟩ := sAt1 (k := i) hP (by first | assumption | omega)
                      refine gw_top (y := nI 3) rfl ?_
                      refine gw_iald hx hb hK hP i_68 0 (k := 3) hi_68 rfl (by first | decide | omega) (by decide) dX6_pass_272 ?_
                      refine gw_top (y := Qj 8 i) rfl ?_
                      refine lv_bipush (v := 10) hx hb dX6_pass_273 (by decide) ?_
                      refine lv_isub hx hb dX6_pass_275 ?_
                      obtain ⟨i_69, hi_69, si_69⟩ := sAt1 (k := i) hP (by first | assumption | omega)
                      refine gw_top2 (y := nI 3) rfl ?_
                      refine gw_iast hx hb hK hP hD hS i_69 0 (k := 3) hi_69 rfl (by first | decide | omega) (by decide) dX6_pass_276 (fun H locs hP hD hS => ?_)
                      rw [si_69, sU1_3] at hP hD
                      have hP : va_P D vwCl (sW si fa ob op oc ow cI cW cO (Q 0) nb nq nr (sRf (adU3 adj nwj q_55) 0 nb) (sRf (adU3 adj nwj q_55) 1 nq) (sRf (adU3 adj nwj q_55) 2 nr) (sRf (adU3 adj nwj q_55) 3 (nwj + 1)) (nI (nwj + 1)) (nI day) co ++ (R ++ sPl nb nq nr (nwj + 1) (adU3 adj nwj q_55) (sEn cI (Qj 1) (Qj 2) (upd (Qj 3) b (if 0 < Qj 3 b - gSize (Qi 5 i) day then Qj 3 b - gSize (Qi 5 i) day else 0)) (upd (Qj 4) b ((Qj 4 b) + 1)) (Qj 5) (Qj 6) (Qj 7) (upd (Qj 8) i ((Qj 8 i) - 10)) (upd (Qj 9) nwj (nI b)) (upd (Qj 11) nwj (gSize (Qi 5 i) day)) (upd (Qj 12) nwj (gCr Qj b (gSize (Qi 5 i) day))) (upd (Qj 13) nwj 0) ca sv (gM nw rl (fun _ => -1))))) _ := hP
                      have hD : va_D A (sW si fa ob op oc ow cI cW cO (Q 0) nb nq nr (sRf (adU3 adj nwj q_55) 0 nb) (sRf (adU3 adj nwj q_55) 1 nq) (sRf (adU3 adj nwj q_55) 2 nr) (sRf (adU3 adj nwj q_55) 3 (nwj + 1)) (nI (nwj + 1)) (nI day) co ++ (R ++ sPl nb nq nr (nwj + 1) (adU3 adj nwj q_55) (sEn cI (Qj 1) (Qj 2) (upd (Qj 3) b (if 0 < Qj 3 b - gSize (Qi 5 i) day then Qj 3 b - gSize (Qi 5 i) day else 0)) (upd (Qj 4) b ((Qj 4 b) + 1)) (Qj 5) (Qj 6) (Qj 7) (upd (Qj 8) i ((Qj 8 i) - 10)) (upd (Qj 9) nwj (nI b)) (upd (Qj 11) nwj (gSize (Qi 5 i) day)) (upd (Qj 12) nwj (gCr Qj b (gSize (Qi 5 i) day))) (upd (Qj 13) nwj 0) ca sv (gM nw rl (fun _ => -1))))) := hD
                      refine lv_goto (tgt := 105) hx hb dX6_pass_277 (by decide) ?_
                      refine W.widen (k := 0 + ((nwj + 1) - nw)) (n := 0 + 5 * ((nwj + 1) - nw)) (by omega) (by omega) ?_
                      exact ih105 (kk, gCutW Qj nwj i b (gSize (Qi 5 i) day), nwj + 1, adU3 adj nwj q_55) H locs ls (by dsimp only; omega) ⟨hP, hD, hS, lv_sub hl [1, 2, 3, 4, 5, 6, 7] rfl, (by omega), ((gWk_step d1 d2).symm.trans hFj), (sp_3 (gSize_in (hsi i)) hbb h3j), (fun j9 hj9 => (sp_cut hj9).trans (hj j9 hj9)), (by omega)⟩
                    · skip
                      refine lv_iconst (v := 0) hx hb dX6_pass_253 (by decide) ?_
                      refine lv_goto (tgt := 267) hx hb dX6_pass_254 (by decide) ?_
                      refine gw_top (y := if 0 < Qj 3 b - gSize (Qi 5 i) day then Qj 3 b - gSize (Qi 5 i) day else 0) (by first | exact sp_st1 (h3j b hbb) (gSize_in (hsi i)) ds | exact sp_st2 (h3j b hbb) (gSize_in (hsi i)) ds) ?_
                      obtain ⟨i_70, hi_70, si_70⟩ := sAt0 (k := b) hP (by first | assumption | omega)
                      refine gw_top2 (y := nI 2) rfl ?_
                      refine gw_iast hx hb hK hP hD hS i_70 0 (k := 2) hi_70 rfl (by first | decide | omega) (by decide) dX6_pass_267 (fun H locs hP hD hS => ?_)
                      rw [si_70, sU0_2] at hP hD
                      have hP : va_P D vwCl (sW si fa ob op oc ow cI cW cO (Q 0) nb nq nr (sRf adj 0 nb) (sRf adj 1 nq) (sRf adj 2 nr) (va_up (sRf adj 3 nwj) nwj (some q_55)) (nI (nwj + 1)) (nI day) co ++ (((q_55, .inr (7, [.int (nI b), .int (gSize (Qi 5 i) day), .int (gCr Qj b (gSize (Qi 5 i) day)), .int 0, .int (-1)])) :: R) ++ sPl nb nq nr nwj adj (sEn cI (Qj 1) (Qj 2) (upd (Qj 3) b (if 0 < Qj 3 b - gSize (Qi 5 i) day then Qj 3 b - gSize (Qi 5 i) day else 0)) (upd (Qj 4) b ((Qj 4 b) + 1)) (Qj 5) (Qj 6) (Qj 7) (Qj 8) (Qj 9) (Qj 11) (Qj 12) (Qj 13) ca sv (gM nw rl (fun _ => -1))))) _ := hP
                      have hD : va_D A (sW si fa ob op oc ow cI cW cO (Q 0) nb nq nr (sRf adj 0 nb) (sRf adj 1 nq) (sRf adj 2 nr) (va_up (sRf adj 3 nwj) nwj (some q_55)) (nI (nwj + 1)) (nI day) co ++ (((q_55, .inr (7, [.int (nI b), .int (gSize (Qi 5 i) day), .int (gCr Qj b (gSize (Qi 5 i) day)), .int 0, .int (-1)])) :: R) ++ sPl nb nq nr nwj adj (sEn cI (Qj 1) (Qj 2) (upd (Qj 3) b (if 0 < Qj 3 b - gSize (Qi 5 i) day then Qj 3 b - gSize (Qi 5 i) day else 0)) (upd (Qj 4) b ((Qj 4 b) + 1)) (Qj 5) (Qj 6) (Qj 7) (Qj 8) (Qj 9) (Qj 11) (Qj 12) (Qj 13) ca sv (gM nw rl (fun _ => -1))))) := hD
                      obtain ⟨hP, hD⟩ := gPD_key (key := (3, nwj)) sK_n3 (sK_p3 _ _ _ _) hP hD
                      rw [sU_new, sRf_new, sp_rl (by omega)] at hP hD
                      have hP : va_P D vwCl (sW si fa ob op oc ow cI cW cO (Q 0) nb nq nr (sRf (adU3 adj nwj q_55) 0 nb) (sRf (adU3 adj nwj q_55) 1 nq) (sRf (adU3 adj nwj q_55) 2 nr) (sRf (adU3 adj nwj q_55) 3 (nwj + 1)) (nI (nwj + 1)) (nI day) co ++ (R ++ sPl nb nq nr (nwj + 1) (adU3 adj nwj q_55) (sEn cI (Qj 1) (Qj 2) (upd (Qj 3) b (if 0 < Qj 3 b - gSize (Qi 5 i) day then Qj 3 b - gSize (Qi 5 i) day else 0)) (upd (Qj 4) b ((Qj 4 b) + 1)) (Qj 5) (Qj 6) (Qj 7) (Qj 8) (upd (Qj 9) nwj (nI b)) (upd (Qj 11) nwj (gSize (Qi 5 i) day)) (upd (Qj 12) nwj (gCr Qj b (gSize (Qi 5 i) day))) (upd (Qj 13) nwj 0) ca sv (gM nw rl (fun _ => -1))))) _ := hP
                      have hD : va_D A (sW si fa ob op oc ow cI cW cO (Q 0) nb nq nr (sRf (adU3 adj nwj q_55) 0 nb) (sRf (adU3 adj nwj q_55) 1 nq) (sRf (adU3 adj nwj q_55) 2 nr) (sRf (adU3 adj nwj q_55) 3 (nwj + 1)) (nI (nwj + 1)) (nI day) co ++ (R ++ sPl nb nq nr (nwj + 1) (adU3 adj nwj q_55) (sEn cI (Qj 1) (Qj 2) (upd (Qj 3) b (if 0 < Qj 3 b - gSize (Qi 5 i) day then Qj 3 b - gSize (Qi 5 i) day else 0)) (upd (Qj 4) b ((Qj 4 b) + 1)) (Qj 5) (Qj 6) (Qj 7) (Qj 8) (upd (Qj 9) nwj (nI b)) (upd (Qj 11) nwj (gSize (Qi 5 i) day)) (upd (Qj 12) nwj (gCr Qj b (gSize (Qi 5 i) day))) (upd (Qj 13) nwj 0) ca sv (gM nw rl (fun _ => -1))))) := hD
                      have hl : lv_has ls 8 [(7, .ref q_55), (6, .ref ((adU3 adj nwj q_55) (0, b))), (5, .ref ((adU3 adj nwj q_55) (1, i))), (4, .int (nI i)), (3, .int (nI nq)), (2, .ref op), (1, .int (nI nw)), (0, .ref si)] := hl
                      refine lv_aload hx hb dX6_pass_268 (lv_at hl 2 rfl) ?_
                      refine lv_iconst (v := 3) hx hb dX6_pass_270 (by decide) ?_
                      refine lv_dup2_11 hx hb dX6_pass_271 rfl rfl ?_
                      obtain ⟨i_71, hi_71, si_71⟩ := sAt1 (k := i) hP (by first | assumption | omega)
                      refine gw_top (y := nI 3) rfl ?_
                      refine gw_iald hx hb hK hP i_71 0 (k := 3) hi_71 rfl (by first | decide | omega) (by decide) dX6_pass_272 ?_
                      refine gw_top (y := Qj 8 i) rfl ?_
                      refine lv_bipush (v := 10) hx hb dX6_pass_273 (by decide) ?_
                      refine lv_isub hx hb dX6_pass_275 ?_
                      obtain ⟨i_72, hi_72, si_72⟩ := sAt1 (k := i) hP (by first | assumption | omega)
                      refine gw_top2 (y := nI 3) rfl ?_
                      refine gw_iast hx hb hK hP hD hS i_72 0 (k := 3) hi_72 rfl (by first | decide | omega) (by decide) dX6_pass_276 (fun H locs hP hD hS => ?_)
                      rw [si_72, sU1_3] at hP hD
                      have hP : va_P D vwCl (sW si fa ob op oc ow cI cW cO (Q 0) nb nq nr (sRf (adU3 adj nwj q_55) 0 nb) (sRf (adU3 adj nwj q_55) 1 nq) (sRf (adU3 adj nwj q_55) 2 nr) (sRf (adU3 adj nwj q_55) 3 (nwj + 1)) (nI (nwj + 1)) (nI day) co ++ (R ++ sPl nb nq nr (nwj + 1) (adU3 adj nwj q_55) (sEn cI (Qj 1) (Qj 2) (upd (Qj 3) b (if 0 < Qj 3 b - gSize (Qi 5 i) day then Qj 3 b - gSize (Qi 5 i) day else 0)) (upd (Qj 4) b ((Qj 4 b) + 1)) (Qj 5) (Qj 6) (Qj 7) (upd (Qj 8) i ((Qj 8 i) - 10)) (upd (Qj 9) nwj (nI b)) (upd (Qj 11) nwj (gSize (Qi 5 i) day)) (upd (Qj 12) nwj (gCr Qj b (gSize (Qi 5 i) day))) (upd (Qj 13) nwj 0) ca sv (gM nw rl (fun _ => -1))))) _ := hP
                      have hD : va_D A (sW si fa ob op oc ow cI cW cO (Q 0) nb nq nr (sRf (adU3 adj nwj q_55) 0 nb) (sRf (adU3 adj nwj q_55) 1 nq) (sRf (adU3 adj nwj q_55) 2 nr) (sRf (adU3 adj nwj q_55) 3 (nwj + 1)) (nI (nwj + 1)) (nI day) co ++ (R ++ sPl nb nq nr (nwj + 1) (adU3 adj nwj q_55) (sEn cI (Qj 1) (Qj 2) (upd (Qj 3) b (if 0 < Qj 3 b - gSize (Qi 5 i) day then Qj 3 b - gSize (Qi 5 i) day else 0)) (upd (Qj 4) b ((Qj 4 b) + 1)) (Qj 5) (Qj 6) (Qj 7) (upd (Qj 8) i ((Qj 8 i) - 10)) (upd (Qj 9) nwj (nI b)) (upd (Qj 11) nwj (gSize (Qi 5 i) day)) (upd (Qj 12) nwj (gCr Qj b (gSize (Qi 5 i) day))) (upd (Qj 13) nwj 0) ca sv (gM nw rl (fun _ => -1))))) := hD
                      refine lv_goto (tgt := 105) hx hb dX6_pass_277 (by decide) ?_
                      refine W.widen (k := 0 + ((nwj + 1) - nw)) (n := 0 + 5 * ((nwj + 1) - nw)) (by omega) (by omega) ?_
                      exact ih105 (kk, gCutW Qj nwj i b (gSize (Qi 5 i) day), nwj + 1, adU3 adj nwj q_55) H locs ls (by dsimp only; omega) ⟨hP, hD, hS, lv_sub hl [1, 2, 3, 4, 5, 6, 7] rfl, (by omega), ((gWk_step d1 d2).symm.trans hFj), (sp_3 (gSize_in (hsi i)) hbb h3j), (fun j9 hj9 => (sp_cut hj9).trans (hj j9 hj9)), (by omega)⟩
      · skip
        refine lv_goto (tgt := 280) hx hb dX6_pass_44 (by decide) ?_
        refine lv_iinc (v := nI (i + 1)) (lv' := [(4, .int (nI (i + 1))), (5, .ref (adi (1, i))), (3, .int (nI nq)), (2, .ref op), (1, .int (nI nw)), (0, .ref si)]) hx hb dX6_pass_280 hl (k := 1) rfl (nI_add i 1) (by decide) rfl (fun ls hl => ?_)
        refine lv_goto (tgt := 16) hx hb dX6_pass_283 (by decide) ?_
        refine W.widen (k := 0 + (nwi - nw)) (n := 0 + 5 * (nwi - nw)) (by omega) (by omega) ?_
        exact ih16 (k, i + 1, Qi, nwi, adi) H locs ls (by dsimp only; omega) ⟨hP, hD, hS, lv_sub hl [0, 2, 3, 4, 5] rfl, (by omega), ((sp_crew (by first | exact sp_skip6 hm1 | exact sp_skip7 hn1 c7)).symm.trans hF), hpi, hgi, hsi, hdi, h3i, h0i, hnwi, hnw2⟩
