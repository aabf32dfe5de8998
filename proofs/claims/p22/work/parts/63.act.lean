/-! The law's act. -/
theorem wc_L_act_X6 : ∀ w ∈ u_ws RX6 TX6 8, w ∈ wsL_act := by decide +kernel
theorem wd_L_act_1 : (.fieldLink RL 9 "GritWheelsLaw$Sim" "beds" "[[I" : Cond) ∈ wsL_act := by decide +kernel
theorem wd_L_act_2 : (.fieldLink RL 15 "GritWheelsLaw$Sim" "people" "[[I" : Cond) ∈ wsL_act := by decide +kernel
theorem wd_L_act_3 : (.fieldLink RL 18 "GritWheelsLaw$Sim" "rafts" "[[I" : Cond) ∈ wsL_act := by decide +kernel
theorem wd_L_act_4 : (.fieldLink RL 27 "GritWheelsLaw$Sim" "many" "I" : Cond) ∈ wsL_act := by decide +kernel
theorem wd_L_act_5 : (.fieldLink RL 31 "GritWheelsLaw$Sim" "wheels" "[LGritWheelsLaw$Wheel;" : Cond) ∈ wsL_act := by decide +kernel
theorem wd_L_act_6 : (.arrayClass .int : Cond) ∈ wsL_act := by decide +kernel
theorem wd_L_act_7 : (.fieldLink RL 52 "GritWheelsLaw$Sim" "fall" "[I" : Cond) ∈ wsL_act := by decide +kernel
theorem wc_L_act_X7 : ∀ w ∈ u_ws RX7 TX7 5, w ∈ wsL_act := by decide +kernel
theorem wd_L_act_9 : (.fieldLink RL 62 "GritWheelsLaw$Wheel" "state" "I" : Cond) ∈ wsL_act := by decide +kernel
theorem wd_L_act_10 : (.fieldLink RL 67 "GritWheelsLaw$Wheel" "bed" "I" : Cond) ∈ wsL_act := by decide +kernel
theorem wd_L_act_11 : (.fieldLink RL 70 "GritWheelsLaw$Wheel" "size" "I" : Cond) ∈ wsL_act := by decide +kernel
theorem wd_L_act_12 : (.methodLink RL 73 Lib.Math.min.name : Cond) ∈ wsL_act := by decide +kernel
theorem wd_L_act_13 : (.static Lib.Math.min.name : Cond) ∈ wsL_act := by decide +kernel
theorem wd_L_act_14 : (.initialized "java/lang/Math" : Cond) ∈ wsL_act := by decide +kernel
theorem wd_L_act_15 : (.code Lib.Math.min.name Lib.Math.min.code 2 (some .int) : Cond) ∈ wsL_act := by decide +kernel
theorem wd_L_act_16 : (.fieldLink RL 88 "GritWheelsLaw$Wheel" "raft" "I" : Cond) ∈ wsL_act := by decide +kernel
theorem wd_L_act_17 : (.fieldLink RL 95 "GritWheelsLaw$Sim" "coins" "I" : Cond) ∈ wsL_act := by decide +kernel
theorem wd_L_act_18 : (.fieldLink RL 98 "GritWheelsLaw$Sim" "day" "I" : Cond) ∈ wsL_act := by decide +kernel
set_option maxHeartbeats 4000000 in
set_option maxRecDepth 100000 in
theorem met_L_act (l : Launch) (D : va_G) (cI cZ cW cO : ClassId) (ts : va_W) (a : Nat → Nat) (si fa ob op oc ow : Nat) (ad : Nat × Nat → Nat) (Q T : Nat → Nat → Int32) (nb nq nw nr day nbt nqt nwt dayt : Nat) (co : Int32) (ca bo sv rl : Nat → Int32) (x : Int32) (i : Nat) (hI : gInv i Q nb nq nw day nr bo sv) (hX : pX Q nb nq nw nr ca sv rl) (sz : Nat) : Met l yL_act wsL_act ({ frames := 4, cells := 2, slots := 12, locals := 87 }) (gPs [.ref (a 0), .ref si, .int x] D (sW si fa ob op oc ow cI cW cO (Q 0) nb nq nr (sRf ad 0 nb) (sRf ad 1 nq) (sRf ad 2 nr) (sRf ad 3 nw) (nI nw) (nI day) co ++ ((ts ++ gG a cI cZ Q T nb nq nw nr day nbt nqt nwt dayt co ca bo) ++ sPl nb nq nr nw ad (sEn cI (Q 1) (Q 2) (Q 3) (Q 4) (Q 5) (Q 6) (Q 7) (Q 8) (Q 9) (Q 11) (Q 12) (Q 13) ca sv rl))) (sT cI cZ cW cO) sz) (va_Qi (fun (zr : Int32) (_ : Unit) => zr = 1) (fun (_ : Unit) t => aOut D (va_A (sW si fa ob op oc ow cI cW cO (Q 0) nb nq nr (sRf ad 0 nb) (sRf ad 1 nq) (sRf ad 2 nr) (sRf ad 3 nw) (nI nw) (nI day) co ++ ((ts ++ gG a cI cZ Q T nb nq nw nr day nbt nqt nwt dayt co ca bo) ++ sPl nb nq nr nw ad (sEn cI (Q 1) (Q 2) (Q 3) (Q 4) (Q 5) (Q 6) (Q 7) (Q 8) (Q 9) (Q 11) (Q 12) (Q 13) ca sv rl))) sz) cI cZ cW cO ts a si fa ow T nbt nqt nwt dayt i Q nw day nr co t) (va_A (sW si fa ob op oc ow cI cW cO (Q 0) nb nq nr (sRf ad 0 nb) (sRf ad 1 nq) (sRf ad 2 nr) (sRf ad 3 nw) (nI nw) (nI day) co ++ ((ts ++ gG a cI cZ Q T nb nq nw nr day nbt nqt nwt dayt co ca bo) ++ sPl nb nq nr nw ad (sEn cI (Q 1) (Q 2) (Q 3) (Q 4) (Q 5) (Q 6) (Q 7) (Q 8) (Q 9) (Q 11) (Q 12) (Q 13) ca sv rl))) sz)) 2 12 (va_A (sW si fa ob op oc ow cI cW cO (Q 0) nb nq nr (sRf ad 0 nb) (sRf ad 1 nq) (sRf ad 2 nr) (sRf ad 3 nw) (nI nw) (nI day) co ++ ((ts ++ gG a cI cZ Q T nb nq nw nr day nbt nqt nwt dayt co ca bo) ++ sPl nb nq nr nw ad (sEn cI (Q 1) (Q 2) (Q 3) (Q 4) (Q 5) (Q 6) (Q 7) (Q 8) (Q 9) (Q 11) (Q 12) (Q 13) ca sv rl))) sz) := by
  refine Met.ofW (cc := cL_act) (maxL := 16) (ret := (some .boolean)) (by decide +kernel) rfl ?_
  intro p e s m args below meth c s₁ B hml hv
  obtain ⟨rfl, hsz, hP, hK, hD0, hR⟩ := hv
  have hx := B.exec
  have hb := B.bytes
  have hr := B.returns
  have hts := atoms_spec (ws := wsL_act) B.pre
  have hown : s.vm.findClass RL = some m.cls := findClass_of_methodNamed B.named
  have hlocks := B.notSynchronized
  subst hsz
  have hD := hD0.self (sz := s.heap.size)
  generalize hAe : va_A (sW si fa ob op oc ow cI cW cO (Q 0) nb nq nr (sRf ad 0 nb) (sRf ad 1 nq) (sRf ad 2 nr) (sRf ad 3 nw) (nI nw) (nI day) co ++ ((ts ++ gG a cI cZ Q T nb nq nw nr day nbt nqt nwt dayt co ca bo) ++ sPl nb nq nr nw ad (sEn cI (Q 1) (Q 2) (Q 3) (Q 4) (Q 5) (Q 6) (Q 7) (Q 8) (Q 9) (Q 11) (Q 12) (Q 13) ca sv rl))) s.heap.size = A at hD ⊢
  have hA : ∀ q : Nat, s.heap.size ≤ q → A q := fun q h => by rw [← hAe]; exact Or.inr h
  have hS : va_S A s.heap s.heap [] := va_S.rf
  have hP : va_P D vwCl (sW si fa ob op oc ow cI cW cO (Q 0) nb nq nr (sRf ad 0 nb) (sRf ad 1 nq) (sRf ad 2 nr) (sRf ad 3 nw) (nI nw) (nI day) co ++ ((ts ++ gG a cI cZ Q T nb nq nw nr day nbt nqt nwt dayt co ca bo) ++ sPl nb nq nr nw ad (sEn cI (Q 1) (Q 2) (Q 3) (Q 4) (Q 5) (Q 6) (Q 7) (Q 8) (Q 9) (Q 11) (Q 12) (Q 13) ca sv rl))) s.heap := hP
  have hl := lv_entry ([.ref (a 0), .ref si, .int x]) (n := 16) (Nat.le_of_ble_eq_true rfl)
  rw [lg_entry_eq]
  generalize (lg_sl ([.ref (a 0), .ref si, .int x]) ++ List.replicate (16 - (lg_sl ([.ref (a 0), .ref si, .int x])).length) Slot.unset).toArray = ls at hl ⊢
  have hl : lv_has ls 16 [(0, .ref (a 0)), (1, .ref si), (2, .int x)] := hl
  have hnb := hI.hnb
  have hnq := hI.hnq
  have hnw := hI.hnw
  have hnr := hI.hnr
  have hdy : day < 2 ^ 30 := by have h8 := hI.hday; have h9 := hI.hi; omega
  refine lv_aload_n hx hb dL_act_0 rfl (lv_at hl 1 rfl) ?_
  refine va_get (D := D) (ci := 6) (v := .ref ob) (C := RX6) (T := TX6) (N := 8) hx hb hts wc_L_act_X6 hown hK hP 0 rfl rfl 1 (by decide) (hts _ wd_L_act_1) (fun _ h9 => h9) rfl dL_act_1 ?_
  refine va_alen (v := nI nb) hx hb hK hP 2 3 rfl rfl rfl dL_act_4 ?_
  refine lv_istore_n (lv' := [(3, .int (nI nb)), (0, .ref (a 0)), (1, .ref si), (2, .int x)]) hx hb dL_act_5 rfl hl (by decide) rfl (fun ls hl => ?_)
  refine lv_aload_n hx hb dL_act_6 rfl (lv_at hl 2 rfl) ?_
  refine va_get (D := D) (ci := 6) (v := .ref op) (C := RX6) (T := TX6) (N := 8) hx hb hts wc_L_act_X6 hown hK hP 0 rfl rfl 2 (by decide) (hts _ wd_L_act_2) (fun _ h9 => h9) rfl dL_act_7 ?_
  refine va_alen (v := nI nq) hx hb hK hP 3 3 rfl rfl rfl dL_act_10 ?_
  refine lv_istore (lv' := [(4, .int (nI nq)), (3, .int (nI nb)), (0, .ref (a 0)), (1, .ref si), (2, .int x)]) hx hb dL_act_11 hl (by decide) rfl (fun ls hl => ?_)
  refine lv_aload_n hx hb dL_act_13 rfl (lv_at hl 3 rfl) ?_
  refine va_get (D := D) (ci := 6) (v := .ref oc) (C := RX6) (T := TX6) (N := 8) hx hb hts wc_L_act_X6 hown hK hP 0 rfl rfl 3 (by decide) (hts _ wd_L_act_3) (fun _ h9 => h9) rfl dL_act_14 ?_
  refine va_alen (v := nI nr) hx hb hK hP 4 3 rfl rfl rfl dL_act_17 ?_
  refine lv_istore (lv' := [(5, .int (nI nr)), (4, .int (nI nq)), (3, .int (nI nb)), (0, .ref (a 0)), (1, .ref si), (2, .int x)]) hx hb dL_act_18 hl (by decide) rfl (fun ls hl => ?_)
  refine gw_cut (X := Nat) (fun (zz : Nat) H locs ls => match zz with | rr => va_P D vwCl (sW si fa ob op oc ow cI cW cO (Q 0) nb nq nr (sRf ad 0 nb) (sRf ad 1 nq) (sRf ad 2 nr) (sRf ad 3 nw) (nI nw) (nI day) co ++ ((ts ++ gG a cI cZ Q T nb nq nw nr day nbt nqt nwt dayt co ca bo) ++ sPl nb nq nr nw ad (sEn cI (Q 1) (Q 2) (Q 3) (Q 4) (Q 5) (Q 6) (Q 7) (Q 8) (Q 9) (Q 11) (Q 12) (Q 13) ca sv rl))) H ∧ va_D A (sW si fa ob op oc ow cI cW cO (Q 0) nb nq nr (sRf ad 0 nb) (sRf ad 1 nq) (sRf ad 2 nr) (sRf ad 3 nw) (nI nw) (nI day) co ++ ((ts ++ gG a cI cZ Q T nb nq nw nr day nbt nqt nwt dayt co ca bo) ++ sPl nb nq nr nw ad (sEn cI (Q 1) (Q 2) (Q 3) (Q 4) (Q 5) (Q 6) (Q 7) (Q 8) (Q 9) (Q 11) (Q 12) (Q 13) ca sv rl))) ∧ va_S A s.heap H locs ∧ lv_has ls 16 [(5, .int (nI nr)), (4, .int (nI nq)), (3, .int (nI nb)), (0, .ref (a 0)), (1, .ref si), (2, .int x)] ∧ (nr = 0 ∨ rr < nr)) (fun (zz : Nat) ls => match zz with | rr => F0 m 37 ls [.int (nI rr)]) (0) (0) (fun hK37 => ?_) ?_
  · skip
    refine lv_iload hx hb dL_act_20 (lv_at hl 0 rfl) ?_
    refine lv_if_ne (tgt := 29) hx hb dL_act_22 (by decide) (fun r0 => ?_) (fun r0 => ?_)
    · skip
      refine lv_iload_n hx hb dL_act_29 rfl (lv_at hl 5 rfl) ?_
      refine lv_iconst (v := 3) hx hb dL_act_30 (by decide) ?_
      refine lv_ishr hx hb dL_act_31 ?_
      refine lv_iload hx hb dL_act_32 (lv_at hl 0 rfl) ?_
      refine va_calli (va_runS (As := [.int (x >>> (3 &&& 31)), .int (nI nr)]) (rest := []) ⟨hx, hb, hml, hown, hts⟩ (met_L_below l D cI cZ cW cO (x >>> (3 &&& 31)) nr (Nat.pos_of_ne_zero (fun e9 => r0 (by rw [e9]; rfl))) (by first | assumption | omega)) (va_cwS 2 hts gL_act_L_below rfl rfl rfl (by decide +kernel) ⟨Nat.le_of_ble_eq_true rfl, Nat.le_of_ble_eq_true rfl⟩) (gv_psr hK (wc := []) (fun _ _ h9 => by cases h9)) rfl rfl hl.1 rfl (lv_room (Nat.le_of_ble_eq_true rfl)) dL_act_34 ⟨(by show _ ≤ 2; omega), (by show _ ≤ 12; omega)⟩) hS (fun _ _ z => z.elim) (fun _ z => z.elim) (fun r_2 _ t H1 locs ht hvm hw hB hz1 hk1 hS => ?_)
      have hP := gw_ro hP hk1
      generalize H1 = H at hP hS ⊢
      subst hw
      exact hK37 (bw (x >>> (3 &&& 31)) nr) _ _ _ ⟨hP, hD, hS, lv_sub hl [0, 1, 2, 3, 4, 5] rfl, (Or.inr (bw_lt (Nat.pos_of_ne_zero (fun e9 => r0 (by rw [e9]; rfl)))))⟩
    · skip
      refine lv_iconst (v := 0) hx hb dL_act_25 (by decide) ?_
      refine lv_goto (tgt := 37) hx hb dL_act_26 (by decide) ?_
      exact hK37 0 _ _ _ ⟨hP, hD, hS, lv_sub hl [0, 1, 2, 3, 4, 5] rfl, (Or.inl ((nI_eq (b := 0) (by omega) (by omega)).mp r0))⟩
  · skip
    rintro rr H locs ls ⟨hP, hD, hS, hl, hrr⟩
    have hP : va_P D vwCl (sW si fa ob op oc ow cI cW cO (Q 0) nb nq nr (sRf ad 0 nb) (sRf ad 1 nq) (sRf ad 2 nr) (sRf ad 3 nw) (nI nw) (nI day) co ++ ((ts ++ gG a cI cZ Q T nb nq nw nr day nbt nqt nwt dayt co ca bo) ++ sPl nb nq nr nw ad (sEn cI (Q 1) (Q 2) (Q 3) (Q 4) (Q 5) (Q 6) (Q 7) (Q 8) (Q 9) (Q 11) (Q 12) (Q 13) ca sv rl))) H := hP
    have hD : va_D A (sW si fa ob op oc ow cI cW cO (Q 0) nb nq nr (sRf ad 0 nb) (sRf ad 1 nq) (sRf ad 2 nr) (sRf ad 3 nw) (nI nw) (nI day) co ++ ((ts ++ gG a cI cZ Q T nb nq nw nr day nbt nqt nwt dayt co ca bo) ++ sPl nb nq nr nw ad (sEn cI (Q 1) (Q 2) (Q 3) (Q 4) (Q 5) (Q 6) (Q 7) (Q 8) (Q 9) (Q 11) (Q 12) (Q 13) ca sv rl))) := hD
    have hl : lv_has ls 16 [(5, .int (nI nr)), (4, .int (nI nq)), (3, .int (nI nb)), (0, .ref (a 0)), (1, .ref si), (2, .int x)] := hl
    have hrr : nr = 0 ∨ rr < nr := hrr
    refine lv_istore (lv' := [(6, .int (nI rr)), (5, .int (nI nr)), (4, .int (nI nq)), (3, .int (nI nb)), (0, .ref (a 0)), (1, .ref si), (2, .int x)]) hx hb dL_act_37 hl (by decide) rfl (fun ls hl => ?_)
    refine gw_cut (X := Value) (fun (zz : Value) H locs ls => match zz with | wv => va_P D vwCl (sW si fa ob op oc ow cI cW cO (Q 0) nb nq nr (sRf ad 0 nb) (sRf ad 1 nq) (sRf ad 2 nr) (sRf ad 3 nw) (nI nw) (nI day) co ++ ((ts ++ gG a cI cZ Q T nb nq nw nr day nbt nqt nwt dayt co ca bo) ++ sPl nb nq nr nw ad (sEn cI (Q 1) (Q 2) (Q 3) (Q 4) (Q 5) (Q 6) (Q 7) (Q 8) (Q 9) (Q 11) (Q 12) (Q 13) ca sv rl))) H ∧ va_D A (sW si fa ob op oc ow cI cW cO (Q 0) nb nq nr (sRf ad 0 nb) (sRf ad 1 nq) (sRf ad 2 nr) (sRf ad 3 nw) (nI nw) (nI day) co ++ ((ts ++ gG a cI cZ Q T nb nq nw nr day nbt nqt nwt dayt co ca bo) ++ sPl nb nq nr nw ad (sEn cI (Q 1) (Q 2) (Q 3) (Q 4) (Q 5) (Q 6) (Q 7) (Q 8) (Q 9) (Q 11) (Q 12) (Q 13) ca sv rl))) ∧ va_S A s.heap H locs ∧ lv_has ls 16 [(6, .int (nI rr)), (5, .int (nI nr)), (4, .int (nI nq)), (3, .int (nI nb)), (0, .ref (a 0)), (1, .ref si), (2, .int x), (7, wv)] ∧ ((nw = 0 ∧ wv = .null) ∨ (0 < nw ∧ wv = .ref (ad (3, bw x nw))))) (fun (zz : Value) ls => match zz with | wv => F0 m 65 ls []) (0) (0) (fun hK65 => ?_) ?_
    · skip
      refine lv_aload_n hx hb dL_act_39 rfl (lv_at hl 5 rfl) ?_
      refine va_get (D := D) (ci := 6) (v := .int (nI nw)) (C := RX6) (T := TX6) (N := 8) hx hb hts wc_L_act_X6 hown hK hP 0 rfl rfl 5 (by decide) (hts _ wd_L_act_4) (fun _ h9 => h9) rfl dL_act_40 ?_
      refine lv_if_ne (tgt := 50) hx hb dL_act_43 (by decide) (fun w0 => ?_) (fun w0 => ?_)
      · skip
        refine lv_aload_n hx hb dL_act_50 rfl (lv_at hl 5 rfl) ?_
        refine va_get (D := D) (ci := 6) (v := .ref ow) (C := RX6) (T := TX6) (N := 8) hx hb hts wc_L_act_X6 hown hK hP 0 rfl rfl 4 (by decide) (hts _ wd_L_act_5) (fun _ h9 => h9) rfl dL_act_51 ?_
        refine lv_iload_n hx hb dL_act_54 rfl (lv_at hl 6 rfl) ?_
        refine lv_aload_n hx hb dL_act_55 rfl (lv_at hl 5 rfl) ?_
        refine va_get (D := D) (ci := 6) (v := .int (nI nw)) (C := RX6) (T := TX6) (N := 8) hx hb hts wc_L_act_X6 hown hK hP 0 rfl rfl 5 (by decide) (hts _ wd_L_act_4) (fun _ h9 => h9) rfl dL_act_56 ?_
        refine va_calli (va_runS (As := [.int x, .int (nI nw)]) (rest := [.ref ow]) ⟨hx, hb, hml, hown, hts⟩ (met_L_below l D cI cZ cW cO x nw (Nat.pos_of_ne_zero (fun e9 => w0 (by rw [e9]; rfl))) (by first | assumption | omega)) (va_cwS 2 hts gL_act_L_below rfl rfl rfl (by decide +kernel) ⟨Nat.le_of_ble_eq_true rfl, Nat.le_of_ble_eq_true rfl⟩) (gv_psr hK (wc := []) (fun _ _ h9 => by cases h9)) rfl rfl hl.1 rfl (lv_room (Nat.le_of_ble_eq_true rfl)) dL_act_59 ⟨(by show _ ≤ 2; omega), (by show _ ≤ 12; omega)⟩) hS (fun _ _ z => z.elim) (fun _ z => z.elim) (fun r_4 _ t H1 locs ht hvm hw hB hz1 hk1 hS => ?_)
        have hP := gw_ro hP hk1
        generalize H1 = H at hP hS ⊢
        subst hw
        refine gw_aldW hx hb hK hP 5 2 (k := bw x nw) (v := ad (3, bw x nw)) rfl rfl (sRf_at (bw_lt (Nat.pos_of_ne_zero (fun e9 => w0 (by rw [e9]; rfl))))) (Nat.lt_of_lt_of_le (bw_lt (Nat.pos_of_ne_zero (fun e9 => w0 (by rw [e9]; rfl)))) (by omega)) (by omega) dL_act_62 ?_
        refine lv_astore (lv' := [(7, .ref (ad (3, bw x nw))), (6, .int (nI rr)), (5, .int (nI nr)), (4, .int (nI nq)), (3, .int (nI nb)), (0, .ref (a 0)), (1, .ref si), (2, .int x)]) hx hb dL_act_63 hl (by decide) rfl (fun ls hl => ?_)
        exact hK65 (.ref (ad (3, bw x nw))) _ _ _ ⟨hP, hD, hS, lv_sub hl [1, 2, 3, 4, 5, 6, 7, 0] rfl, (Or.inr ⟨(Nat.pos_of_ne_zero (fun e9 => w0 (by rw [e9]; rfl))), rfl⟩)⟩
      · skip
        refine lv_null hx hb dL_act_46 ?_
        refine lv_goto (tgt := 63) hx hb dL_act_47 (by decide) ?_
        refine lv_astoreN (lv' := [(7, .null), (6, .int (nI rr)), (5, .int (nI nr)), (4, .int (nI nq)), (3, .int (nI nb)), (0, .ref (a 0)), (1, .ref si), (2, .int x)]) hx hb dL_act_63 hl (by decide) rfl (fun ls hl => ?_)
        exact hK65 .null _ _ _ ⟨hP, hD, hS, lv_sub hl [1, 2, 3, 4, 5, 6, 7, 0] rfl, (Or.inl ⟨(nI_eq (b := 0) (by omega) (by omega)).mp w0, rfl⟩)⟩
    · skip
      rintro wv H locs ls ⟨hP, hD, hS, hl, hwv⟩
      have hP : va_P D vwCl (sW si fa ob op oc ow cI cW cO (Q 0) nb nq nr (sRf ad 0 nb) (sRf ad 1 nq) (sRf ad 2 nr) (sRf ad 3 nw) (nI nw) (nI day) co ++ ((ts ++ gG a cI cZ Q T nb nq nw nr day nbt nqt nwt dayt co ca bo) ++ sPl nb nq nr nw ad (sEn cI (Q 1) (Q 2) (Q 3) (Q 4) (Q 5) (Q 6) (Q 7) (Q 8) (Q 9) (Q 11) (Q 12) (Q 13) ca sv rl))) H := hP
      have hD : va_D A (sW si fa ob op oc ow cI cW cO (Q 0) nb nq nr (sRf ad 0 nb) (sRf ad 1 nq) (sRf ad 2 nr) (sRf ad 3 nw) (nI nw) (nI day) co ++ ((ts ++ gG a cI cZ Q T nb nq nw nr day nbt nqt nwt dayt co ca bo) ++ sPl nb nq nr nw ad (sEn cI (Q 1) (Q 2) (Q 3) (Q 4) (Q 5) (Q 6) (Q 7) (Q 8) (Q 9) (Q 11) (Q 12) (Q 13) ca sv rl))) := hD
      have hl : lv_has ls 16 [(6, .int (nI rr)), (5, .int (nI nr)), (4, .int (nI nq)), (3, .int (nI nb)), (0, .ref (a 0)), (1, .ref si), (2, .int x), (7, wv)] := hl
      have hwv : (nw = 0 ∧ wv = .null) ∨ (0 < nw ∧ wv = .ref (ad (3, bw x nw))) := hwv
      refine gw_cut (X := Unit) (fun (zz : Unit) H locs ls => match zz with | _ => va_P D vwCl (sW si fa ob op oc ow cI cW cO (Q 0) nb nq nr (sRf ad 0 nb) (sRf ad 1 nq) (sRf ad 2 nr) (sRf ad 3 nw) (nI nw) (nI day) co ++ ((ts ++ gG a cI cZ Q T nb nq nw nr day nbt nqt nwt dayt co ca bo) ++ sPl nb nq nr nw ad (sEn cI (Q 1) (Q 2) (Q 3) (Q 4) (Q 5) (Q 6) (Q 7) (Q 8) (Q 9) (Q 11) (Q 12) (Q 13) ca sv rl))) H ∧ va_D A (sW si fa ob op oc ow cI cW cO (Q 0) nb nq nr (sRf ad 0 nb) (sRf ad 1 nq) (sRf ad 2 nr) (sRf ad 3 nw) (nI nw) (nI day) co ++ ((ts ++ gG a cI cZ Q T nb nq nw nr day nbt nqt nwt dayt co ca bo) ++ sPl nb nq nr nw ad (sEn cI (Q 1) (Q 2) (Q 3) (Q 4) (Q 5) (Q 6) (Q 7) (Q 8) (Q 9) (Q 11) (Q 12) (Q 13) ca sv rl))) ∧ va_S A s.heap H locs ∧ lv_has ls 16 [(6, .int (nI rr)), (5, .int (nI nr)), (4, .int (nI nq)), (3, .int (nI nb)), (0, .ref (a 0)), (1, .ref si), (2, .int x), (7, wv)] ∧ True) (fun (zz : Unit) ls => match zz with | _ => F0 m 423 ls []) (0) (0) (fun hK423 => ?_) ?_
      · skip
        refine gw_cut (X := Unit) (fun (zz : Unit) H locs ls => match zz with | _ => va_P D vwCl (sW si fa ob op oc ow cI cW cO (Q 0) nb nq nr (sRf ad 0 nb) (sRf ad 1 nq) (sRf ad 2 nr) (sRf ad 3 nw) (nI nw) (nI day) co ++ ((ts ++ gG a cI cZ Q T nb nq nw nr day nbt nqt nwt dayt co ca bo) ++ sPl nb nq nr nw ad (sEn cI (Q 1) (Q 2) (Q 3) (Q 4) (Q 5) (Q 6) (Q 7) (Q 8) (Q 9) (Q 11) (Q 12) (Q 13) ca sv rl))) H ∧ va_D A (sW si fa ob op oc ow cI cW cO (Q 0) nb nq nr (sRf ad 0 nb) (sRf ad 1 nq) (sRf ad 2 nr) (sRf ad 3 nw) (nI nw) (nI day) co ++ ((ts ++ gG a cI cZ Q T nb nq nw nr day nbt nqt nwt dayt co ca bo) ++ sPl nb nq nr nw ad (sEn cI (Q 1) (Q 2) (Q 3) (Q 4) (Q 5) (Q 6) (Q 7) (Q 8) (Q 9) (Q 11) (Q 12) (Q 13) ca sv rl))) ∧ va_S A s.heap H locs ∧ lv_has ls 16 [(6, .int (nI rr)), (5, .int (nI nr)), (4, .int (nI nq)), (3, .int (nI nb)), (0, .ref (a 0)), (1, .ref si), (2, .int x), (7, wv)] ∧ True) (fun (zz : Unit) ls => match zz with | _ => F0 m 580 ls []) (0) (0) (fun hK580 => ?_) ?_
        · skip
          refine gw_cut (X := Unit) (fun (zz : Unit) H locs ls => match zz with | _ => va_P D vwCl (sW si fa ob op oc ow cI cW cO (Q 0) nb nq nr (sRf ad 0 nb) (sRf ad 1 nq) (sRf ad 2 nr) (sRf ad 3 nw) (nI nw) (nI day) co ++ ((ts ++ gG a cI cZ Q T nb nq nw nr day nbt nqt nwt dayt co ca bo) ++ sPl nb nq nr nw ad (sEn cI (Q 1) (Q 2) (Q 3) (Q 4) (Q 5) (Q 6) (Q 7) (Q 8) (Q 9) (Q 11) (Q 12) (Q 13) ca sv rl))) H ∧ va_D A (sW si fa ob op oc ow cI cW cO (Q 0) nb nq nr (sRf ad 0 nb) (sRf ad 1 nq) (sRf ad 2 nr) (sRf ad 3 nw) (nI nw) (nI day) co ++ ((ts ++ gG a cI cZ Q T nb nq nw nr day nbt nqt nwt dayt co ca bo) ++ sPl nb nq nr nw ad (sEn cI (Q 1) (Q 2) (Q 3) (Q 4) (Q 5) (Q 6) (Q 7) (Q 8) (Q 9) (Q 11) (Q 12) (Q 13) ca sv rl))) ∧ va_S A s.heap H locs ∧ lv_has ls 16 [(6, .int (nI rr)), (5, .int (nI nr)), (4, .int (nI nq)), (3, .int (nI nb)), (0, .ref (a 0)), (1, .ref si), (2, .int x), (7, wv)] ∧ True) (fun (zz : Unit) ls => match zz with | _ => F0 m 735 ls []) (0) (0) (fun hK735 => ?_) ?_
          · skip
            refine lv_iload_n hx hb dL_act_65 rfl (lv_at hl 6 rfl) ?_
            refine lv_bipush (v := 9) hx hb dL_act_66 (by decide) ?_
            refine lv_ishr hx hb dL_act_68 ?_
            refine lv_bipush (v := 16) hx hb dL_act_69 (by decide) ?_
            refine gw_top (y := nI 16) rfl ?_
            refine va_calli (va_runS (As := [.int (x >>> (9 &&& 31)), .int (nI 16)]) (rest := []) ⟨hx, hb, hml, hown, hts⟩ (met_L_below l D cI cZ cW cO (x >>> (9 &&& 31)) 16 (by first | assumption | omega) (by first | assumption | omega)) (va_cwS 2 hts gL_act_L_below rfl rfl rfl (by decide +kernel) ⟨Nat.le_of_ble_eq_true rfl, Nat.le_of_ble_eq_true rfl⟩) (gv_psr hK (wc := []) (fun _ _ h9 => by cases h9)) rfl rfl hl.1 rfl (lv_room (Nat.le_of_ble_eq_true rfl)) dL_act_71 ⟨(by show _ ≤ 2; omega), (by show _ ≤ 12; omega)⟩) hS (fun _ _ z => z.elim) (fun _ z => z.elim) (fun r_5 _ t H1 locs ht hvm hw hB hz1 hk1 hS => ?_)
            have hP := gw_ro hP hk1
            generalize H1 = H at hP hS ⊢
            subst hw
            have hsw : bw (x >>> (9 &&& 31)) 16 < 16 := bw_lt (by decide)
            generalize bw (x >>> (9 &&& 31)) 16 = sw at hsw ⊢
            rcases (show sw = 0 ∨ sw = 1 ∨ sw = 2 ∨ sw = 3 ∨ sw = 4 ∨ sw = 5 ∨ sw = 6 ∨ sw = 7 ∨ sw = 8 ∨ sw = 9 ∨ sw = 10 ∨ sw = 11 ∨ sw = 12 ∨ sw = 13 ∨ sw = 14 ∨ sw = 15 by omega) with rfl | rfl | rfl | rfl | rfl | rfl | rfl | rfl | rfl | rfl | rfl | rfl | rfl | rfl | rfl | rfl
            · skip
              refine lv_tableIn (off := 54) (tgt := 128) hx hb dL_act_74 (by decide) (by decide) rfl (by decide) ?_
              refine lv_iload_n hx hb dL_act_128 rfl (lv_at hl 3 rfl) ?_
              refine lv_iconst (v := 5) hx hb dL_act_129 (by decide) ?_
              refine lv_icmp_ne (tgt := 135) hx hb dL_act_130 (by decide) (fun b5 => ?_) (fun b5 => ?_)
              · skip
                have hb5 : nb < 5 := by have h9 : nb ≠ 5 := (fun e9 => b5 (by rw [e9]; rfl)); omega
                refine lv_aload_n hx hb dL_act_135 rfl (lv_at hl 5 rfl) ?_
                refine lv_aload_n hx hb dL_act_136 rfl (lv_at hl 5 rfl) ?_
                refine va_get (D := D) (ci := 6) (v := .ref ob) (C := RX6) (T := TX6) (N := 8) hx hb hts wc_L_act_X6 hown hK hP 0 rfl rfl 1 (by decide) (hts _ wd_L_act_1) (fun _ h9 => h9) rfl dL_act_137 ?_
                refine lv_iconst (v := 4) hx hb dL_act_140 (by decide) ?_
                refine gw_newI hx hb (hts _ wd_L_act_6) hK 0 rfl hP hD hS hA (n := 4) (N' := 4) (by decide) (by decide) (by decide) (Nat.le_of_ble_eq_true rfl) (Nat.le_of_ble_eq_true rfl) dL_act_141 (fun q_7 H hP hD hS => ?_)
                obtain ⟨hP, hD⟩ := gPD_new hP hD
                have hP : va_P D vwCl (sW si fa ob op oc ow cI cW cO (Q 0) nb nq nr (sRf ad 0 nb) (sRf ad 1 nq) (sRf ad 2 nr) (sRf ad 3 nw) (nI nw) (nI day) co ++ ((([(q_7, .inl (cI, 4, .inl (fun _ => 0)))] ++ ts) ++ gG a cI cZ Q T nb nq nw nr day nbt nqt nwt dayt co ca bo) ++ sPl nb nq nr nw ad (sEn cI (Q 1) (Q 2) (Q 3) (Q 4) (Q 5) (Q 6) (Q 7) (Q 8) (Q 9) (Q 11) (Q 12) (Q 13) ca sv rl))) _ := hP
                have hD : va_D A (sW si fa ob op oc ow cI cW cO (Q 0) nb nq nr (sRf ad 0 nb) (sRf ad 1 nq) (sRf ad 2 nr) (sRf ad 3 nw) (nI nw) (nI day) co ++ ((([(q_7, .inl (cI, 4, .inl (fun _ => 0)))] ++ ts) ++ gG a cI cZ Q T nb nq nw nr day nbt nqt nwt dayt co ca bo) ++ sPl nb nq nr nw ad (sEn cI (Q 1) (Q 2) (Q 3) (Q 4) (Q 5) (Q 6) (Q 7) (Q 8) (Q 9) (Q 11) (Q 12) (Q 13) ca sv rl))) := hD
                refine W.widen (k := 1) (n := 4) (by omega) (by omega) ?_
                refine lv_dup hx hb dL_act_143 rfl ?_
                refine lv_iconst (v := 0) hx hb dL_act_144 (by decide) ?_
                refine lv_iconst (v := 1) hx hb dL_act_145 (by decide) ?_
                refine lv_iload_n hx hb dL_act_146 rfl (lv_at hl 6 rfl) ?_
                refine lv_bipush (v := 9) hx hb dL_act_147 (by decide) ?_
                refine gw_top (y := nI 9) rfl ?_
                refine va_calli (va_runS (As := [.int x, .int (nI 9)]) (rest := [.int 1, .int 0, .ref q_7, .ref q_7, .ref ob, .ref si]) ⟨hx, hb, hml, hown, hts⟩ (met_L_below l D cI cZ cW cO x 9 (by first | assumption | omega) (by first | assumption | omega)) (va_cwS 2 hts gL_act_L_below rfl rfl rfl (by decide +kernel) ⟨Nat.le_of_ble_eq_true rfl, Nat.le_of_ble_eq_true rfl⟩) (gv_psr hK (wc := []) (fun _ _ h9 => by cases h9)) rfl rfl hl.1 rfl (lv_room (Nat.le_of_ble_eq_true rfl)) dL_act_149 ⟨(by show _ ≤ 2; omega), (by show _ ≤ 12; omega)⟩) hS (fun _ _ z => z.elim) (fun _ z => z.elim) (fun r_8 _ t H1 locs ht hvm hw hB hz1 hk1 hS => ?_)
                have hP := gw_ro hP hk1
                generalize H1 = H at hP hS ⊢
                subst hw
                refine lv_iadd hx hb dL_act_152 ?_
                refine gw_top (y := nI (1 + (bw x 9))) (nI_add 1 (bw x 9)) ?_
                refine gw_top2 (y := nI 0) rfl ?_
                refine gw_iast hx hb hK hP hD hS 6 0 (k := 0) rfl rfl (by first | decide | omega) (by decide) dL_act_153 (fun H locs hP hD hS => ?_)
                have hP : va_P D vwCl (sW si fa ob op oc ow cI cW cO (Q 0) nb nq nr (sRf ad 0 nb) (sRf ad 1 nq) (sRf ad 2 nr) (sRf ad 3 nw) (nI nw) (nI day) co ++ ((([(q_7, .inl (cI, 4, .inl (upd (fun _ => 0) 0 (nI (1 + (bw x 9))))))] ++ ts) ++ gG a cI cZ Q T nb nq nw nr day nbt nqt nwt dayt co ca bo) ++ sPl nb nq nr nw ad (sEn cI (Q 1) (Q 2) (Q 3) (Q 4) (Q 5) (Q 6) (Q 7) (Q 8) (Q 9) (Q 11) (Q 12) (Q 13) ca sv rl))) _ := hP
                have hD : va_D A (sW si fa ob op oc ow cI cW cO (Q 0) nb nq nr (sRf ad 0 nb) (sRf ad 1 nq) (sRf ad 2 nr) (sRf ad 3 nw) (nI nw) (nI day) co ++ ((([(q_7, .inl (cI, 4, .inl (upd (fun _ => 0) 0 (nI (1 + (bw x 9))))))] ++ ts) ++ gG a cI cZ Q T nb nq nw nr day nbt nqt nwt dayt co ca bo) ++ sPl nb nq nr nw ad (sEn cI (Q 1) (Q 2) (Q 3) (Q 4) (Q 5) (Q 6) (Q 7) (Q 8) (Q 9) (Q 11) (Q 12) (Q 13) ca sv rl))) := hD
                refine lv_dup hx hb dL_act_154 rfl ?_
                refine lv_iconst (v := 1) hx hb dL_act_155 (by decide) ?_
                refine lv_iload_n hx hb dL_act_156 rfl (lv_at hl 6 rfl) ?_
                refine lv_iconst (v := 2) hx hb dL_act_157 (by decide) ?_
                refine lv_ishr hx hb dL_act_158 ?_
                refine lv_bipush (v := 10) hx hb dL_act_159 (by decide) ?_
                refine gw_top (y := nI 10) rfl ?_
                refine va_calli (va_runS (As := [.int (x >>> (2 &&& 31)), .int (nI 10)]) (rest := [.int 1, .ref q_7, .ref q_7, .ref ob, .ref si]) ⟨hx, hb, hml, hown, hts⟩ (met_L_below l D cI cZ cW cO (x >>> (2 &&& 31)) 10 (by first | assumption | omega) (by first | assumption | omega)) (va_cwS 2 hts gL_act_L_below rfl rfl rfl (by decide +kernel) ⟨Nat.le_of_ble_eq_true rfl, Nat.le_of_ble_eq_true rfl⟩) (gv_psr hK (wc := []) (fun _ _ h9 => by cases h9)) rfl rfl hl.1 rfl (lv_room (Nat.le_of_ble_eq_true rfl)) dL_act_161 ⟨(by show _ ≤ 2; omega), (by show _ ≤ 12; omega)⟩) hS (fun _ _ z => z.elim) (fun _ z => z.elim) (fun r_9 _ t H1 locs ht hvm hw hB hz1 hk1 hS => ?_)
                have hP := gw_ro hP hk1
                generalize H1 = H at hP hS ⊢
                subst hw
                refine gw_top2 (y := nI 1) rfl ?_
                refine gw_iast hx hb hK hP hD hS 6 0 (k := 1) rfl rfl (by first | decide | omega) (by decide) dL_act_164 (fun H locs hP hD hS => ?_)
                have hP : va_P D vwCl (sW si fa ob op oc ow cI cW cO (Q 0) nb nq nr (sRf ad 0 nb) (sRf ad 1 nq) (sRf ad 2 nr) (sRf ad 3 nw) (nI nw) (nI day) co ++ ((([(q_7, .inl (cI, 4, .inl (upd (upd (fun _ => 0) 0 (nI (1 + (bw x 9)))) 1 (nI (bw (x >>> (2 &&& 31)) 10)))))] ++ ts) ++ gG a cI cZ Q T nb nq nw nr day nbt nqt nwt dayt co ca bo) ++ sPl nb nq nr nw ad (sEn cI (Q 1) (Q 2) (Q 3) (Q 4) (Q 5) (Q 6) (Q 7) (Q 8) (Q 9) (Q 11) (Q 12) (Q 13) ca sv rl))) _ := hP
                have hD : va_D A (sW si fa ob op oc ow cI cW cO (Q 0) nb nq nr (sRf ad 0 nb) (sRf ad 1 nq) (sRf ad 2 nr) (sRf ad 3 nw) (nI nw) (nI day) co ++ ((([(q_7, .inl (cI, 4, .inl (upd (upd (fun _ => 0) 0 (nI (1 + (bw x 9)))) 1 (nI (bw (x >>> (2 &&& 31)) 10)))))] ++ ts) ++ gG a cI cZ Q T nb nq nw nr day nbt nqt nwt dayt co ca bo) ++ sPl nb nq nr nw ad (sEn cI (Q 1) (Q 2) (Q 3) (Q 4) (Q 5) (Q 6) (Q 7) (Q 8) (Q 9) (Q 11) (Q 12) (Q 13) ca sv rl))) := hD
                refine lv_dup hx hb dL_act_165 rfl ?_
                refine lv_iconst (v := 2) hx hb dL_act_166 (by decide) ?_
                refine lv_iload_n hx hb dL_act_167 rfl (lv_at hl 6 rfl) ?_
                refine lv_iconst (v := 3) hx hb dL_act_168 (by decide) ?_
                refine lv_ishr hx hb dL_act_169 ?_
                refine lv_sipush (v := 201) hx hb dL_act_170 (by decide) ?_
                refine gw_top (y := nI 201) rfl ?_
                refine va_calli (va_runS (As := [.int (x >>> (3 &&& 31)), .int (nI 201)]) (rest := [.int 2, .ref q_7, .ref q_7, .ref ob, .ref si]) ⟨hx, hb, hml, hown, hts⟩ (met_L_below l D cI cZ cW cO (x >>> (3 &&& 31)) 201 (by first | assumption | omega) (by first | assumption | omega)) (va_cwS 2 hts gL_act_L_below rfl rfl rfl (by decide +kernel) ⟨Nat.le_of_ble_eq_true rfl, Nat.le_of_ble_eq_true rfl⟩) (gv_psr hK (wc := []) (fun _ _ h9 => by cases h9)) rfl rfl hl.1 rfl (lv_room (Nat.le_of_ble_eq_true rfl)) dL_act_173 ⟨(by show _ ≤ 2; omega), (by show _ ≤ 12; omega)⟩) hS (fun _ _ z => z.elim) (fun _ z => z.elim) (fun r_10 _ t H1 locs ht hvm hw hB hz1 hk1 hS => ?_)
                have hP := gw_ro hP hk1
                generalize H1 = H at hP hS ⊢
                subst hw
                refine gw_top2 (y := nI 2) rfl ?_
                refine gw_iast hx hb hK hP hD hS 6 0 (k := 2) rfl rfl (by first | decide | omega) (by decide) dL_act_176 (fun H locs hP hD hS => ?_)
                have hP : va_P D vwCl (sW si fa ob op oc ow cI cW cO (Q 0) nb nq nr (sRf ad 0 nb) (sRf ad 1 nq) (sRf ad 2 nr) (sRf ad 3 nw) (nI nw) (nI day) co ++ ((([(q_7, .inl (cI, 4, .inl (upd (upd (upd (fun _ => 0) 0 (nI (1 + (bw x 9)))) 1 (nI (bw (x >>> (2 &&& 31)) 10))) 2 (nI (bw (x >>> (3 &&& 31)) 201)))))] ++ ts) ++ gG a cI cZ Q T nb nq nw nr day nbt nqt nwt dayt co ca bo) ++ sPl nb nq nr nw ad (sEn cI (Q 1) (Q 2) (Q 3) (Q 4) (Q 5) (Q 6) (Q 7) (Q 8) (Q 9) (Q 11) (Q 12) (Q 13) ca sv rl))) _ := hP
                have hD : va_D A (sW si fa ob op oc ow cI cW cO (Q 0) nb nq nr (sRf ad 0 nb) (sRf ad 1 nq) (sRf ad 2 nr) (sRf ad 3 nw) (nI nw) (nI day) co ++ ((([(q_7, .inl (cI, 4, .inl (upd (upd (upd (fun _ => 0) 0 (nI (1 + (bw x 9)))) 1 (nI (bw (x >>> (2 &&& 31)) 10))) 2 (nI (bw (x >>> (3 &&& 31)) 201)))))] ++ ts) ++ gG a cI cZ Q T nb nq nw nr day nbt nqt nwt dayt co ca bo) ++ sPl nb nq nr nw ad (sEn cI (Q 1) (Q 2) (Q 3) (Q 4) (Q 5) (Q 6) (Q 7) (Q 8) (Q 9) (Q 11) (Q 12) (Q 13) ca sv rl))) := hD
                refine lv_dup hx hb dL_act_177 rfl ?_
                refine lv_iconst (v := 3) hx hb dL_act_178 (by decide) ?_
                refine lv_iconst (v := 0) hx hb dL_act_179 (by decide) ?_
                refine gw_top2 (y := nI 3) rfl ?_
                refine gw_iast hx hb hK hP hD hS 6 0 (k := 3) rfl rfl (by first | decide | omega) (by decide) dL_act_180 (fun H locs hP hD hS => ?_)
                have hP : va_P D vwCl (sW si fa ob op oc ow cI cW cO (Q 0) nb nq nr (sRf ad 0 nb) (sRf ad 1 nq) (sRf ad 2 nr) (sRf ad 3 nw) (nI nw) (nI day) co ++ ((([(q_7, .inl (cI, 4, .inl (upd (upd (upd (upd (fun _ => 0) 0 (nI (1 + (bw x 9)))) 1 (nI (bw (x >>> (2 &&& 31)) 10))) 2 (nI (bw (x >>> (3 &&& 31)) 201))) 3 0)))] ++ ts) ++ gG a cI cZ Q T nb nq nw nr day nbt nqt nwt dayt co ca bo) ++ sPl nb nq nr nw ad (sEn cI (Q 1) (Q 2) (Q 3) (Q 4) (Q 5) (Q 6) (Q 7) (Q 8) (Q 9) (Q 11) (Q 12) (Q 13) ca sv rl))) _ := hP
                have hD : va_D A (sW si fa ob op oc ow cI cW cO (Q 0) nb nq nr (sRf ad 0 nb) (sRf ad 1 nq) (sRf ad 2 nr) (sRf ad 3 nw) (nI nw) (nI day) co ++ ((([(q_7, .inl (cI, 4, .inl (upd (upd (upd (upd (fun _ => 0) 0 (nI (1 + (bw x 9)))) 1 (nI (bw (x >>> (2 &&& 31)) 10))) 2 (nI (bw (x >>> (3 &&& 31)) 201))) 3 0)))] ++ ts) ++ gG a cI cZ Q T nb nq nw nr day nbt nqt nwt dayt co ca bo) ++ sPl nb nq nr nw ad (sEn cI (Q 1) (Q 2) (Q 3) (Q 4) (Q 5) (Q 6) (Q 7) (Q 8) (Q 9) (Q 11) (Q 12) (Q 13) ca sv rl))) := hD
                have hFc := gv_free hD hS hA
                refine va_callr (va_runS (As := [.ref ob, .ref q_7]) (rest := [.ref si]) ⟨hx, hb, hml, hown, hts⟩ (met_X6_more l D cI cZ cW cO ob q_7 nb 4 2 6 (sRf ad 0 nb) (upd (upd (upd (upd (fun _ => 0) 0 (nI (1 + (bw x 9)))) 1 (nI (bw (x >>> (2 &&& 31)) 10))) 2 (nI (bw (x >>> (3 &&& 31)) 201))) 3 0) (sW si fa ob op oc ow cI cW cO (Q 0) nb nq nr (sRf ad 0 nb) (sRf ad 1 nq) (sRf ad 2 nr) (sRf ad 3 nw) (nI nw) (nI day) co ++ ((([(q_7, .inl (cI, 4, .inl (upd (upd (upd (upd (fun _ => 0) 0 (nI (1 + (bw x 9)))) 1 (nI (bw (x >>> (2 &&& 31)) 10))) 2 (nI (bw (x >>> (3 &&& 31)) 201))) 3 0)))] ++ ts) ++ gG a cI cZ Q T nb nq nw nr day nbt nqt nwt dayt co ca bo) ++ sPl nb nq nr nw ad (sEn cI (Q 1) (Q 2) (Q 3) (Q 4) (Q 5) (Q 6) (Q 7) (Q 8) (Q 9) (Q 11) (Q 12) (Q 13) ca sv rl))) (by omega) rfl rfl (fun k9 hk9 => by obtain ⟨i9, hi9, -⟩ := sAt0 hP hk9; exact ⟨_, i9, _, sRf_at hk9, hi9⟩) H.size) (va_cwS 2 hts gL_act_X6_more rfl rfl rfl (by decide +kernel) ⟨Nat.le_of_ble_eq_true rfl, Nat.le_of_ble_eq_true rfl⟩) (gv_pss hK hR hP hD) rfl rfl hl.1 rfl (lv_room (Nat.le_of_ble_eq_true rfl)) dL_act_181 ⟨(by show _ ≤ 2; omega), (by show _ ≤ 12; omega)⟩) hS (fun q _ h => hFc q h) hFc (fun u_ ra_11 t H1 locs ht hvm hw hB hz1 hk1 hS => ?_)
                have hP1 : va_P D vwCl ((sW si fa ob op oc ow cI cW cO (Q 0) nb nq nr (sRf ad 0 nb) (sRf ad 1 nq) (sRf ad 2 nr) (sRf ad 3 nw) (nI nw) (nI day) co ++ ((([(q_7, .inl (cI, 4, .inl (upd (upd (upd (upd (fun _ => 0) 0 (nI (1 + (bw x 9)))) 1 (nI (bw (x >>> (2 &&& 31)) 10))) 2 (nI (bw (x >>> (3 &&& 31)) 201))) 3 0)))] ++ ts) ++ gG a cI cZ Q T nb nq nw nr day nbt nqt nwt dayt co ca bo) ++ sPl nb nq nr nw ad (sEn cI (Q 1) (Q 2) (Q 3) (Q 4) (Q 5) (Q 6) (Q 7) (Q 8) (Q 9) (Q 11) (Q 12) (Q 13) ca sv rl))) ++ [(ra_11, .inl (cO, nb + 1, .inr (.inr (.inr (.inr (moF (sRf ad 0 nb) nb q_7))))))]) t.heap := hB.1
                have hD1 : va_D A ((sW si fa ob op oc ow cI cW cO (Q 0) nb nq nr (sRf ad 0 nb) (sRf ad 1 nq) (sRf ad 2 nr) (sRf ad 3 nw) (nI nw) (nI day) co ++ ((([(q_7, .inl (cI, 4, .inl (upd (upd (upd (upd (fun _ => 0) 0 (nI (1 + (bw x 9)))) 1 (nI (bw (x >>> (2 &&& 31)) 10))) 2 (nI (bw (x >>> (3 &&& 31)) 201))) 3 0)))] ++ ts) ++ gG a cI cZ Q T nb nq nw nr day nbt nqt nwt dayt co ca bo) ++ sPl nb nq nr nw ad (sEn cI (Q 1) (Q 2) (Q 3) (Q 4) (Q 5) (Q 6) (Q 7) (Q 8) (Q 9) (Q 11) (Q 12) (Q 13) ca sv rl))) ++ [(ra_11, .inl (cO, nb + 1, .inr (.inr (.inr (.inr (moF (sRf ad 0 nb) nb q_7))))))]) := hB.2.weaken (fun _ _ _ h9 => hFc _ h9)
                rw [ht] at hP1
                obtain ⟨hP, hD⟩ := gPD_new hP1 hD1
                generalize H1 = H at hP hS ⊢
                have hP : va_P D vwCl (sW si fa ob op oc ow cI cW cO (Q 0) nb nq nr (sRf ad 0 nb) (sRf ad 1 nq) (sRf ad 2 nr) (sRf ad 3 nw) (nI nw) (nI day) co ++ ((([(ra_11, .inl (cO, nb + 1, .inr (.inr (.inr (.inr (moF (sRf ad 0 nb) nb q_7)))))), (q_7, .inl (cI, 4, .inl (upd (upd (upd (upd (fun _ => 0) 0 (nI (1 + (bw x 9)))) 1 (nI (bw (x >>> (2 &&& 31)) 10))) 2 (nI (bw (x >>> (3 &&& 31)) 201))) 3 0)))] ++ ts) ++ gG a cI cZ Q T nb nq nw nr day nbt nqt nwt dayt co ca bo) ++ sPl nb nq nr nw ad (sEn cI (Q 1) (Q 2) (Q 3) (Q 4) (Q 5) (Q 6) (Q 7) (Q 8) (Q 9) (Q 11) (Q 12) (Q 13) ca sv rl))) _ := hP
                have hD : va_D A (sW si fa ob op oc ow cI cW cO (Q 0) nb nq nr (sRf ad 0 nb) (sRf ad 1 nq) (sRf ad 2 nr) (sRf ad 3 nw) (nI nw) (nI day) co ++ ((([(ra_11, .inl (cO, nb + 1, .inr (.inr (.inr (.inr (moF (sRf ad 0 nb) nb q_7)))))), (q_7, .inl (cI, 4, .inl (upd (upd (upd (upd (fun _ => 0) 0 (nI (1 + (bw x 9)))) 1 (nI (bw (x >>> (2 &&& 31)) 10))) 2 (nI (bw (x >>> (3 &&& 31)) 201))) 3 0)))] ++ ts) ++ gG a cI cZ Q T nb nq nw nr day nbt nqt nwt dayt co ca bo) ++ sPl nb nq nr nw ad (sEn cI (Q 1) (Q 2) (Q 3) (Q 4) (Q 5) (Q 6) (Q 7) (Q 8) (Q 9) (Q 11) (Q 12) (Q 13) ca sv rl))) := hD
                refine W.widen (k := 2) (n := 11) (by omega) (by omega) ?_
                refine va_put (D := D) (ci := 6) (v := .ref ra_11) (ty := .array (.array .int)) (C := RX6) (T := TX6) (N := 8) hx hb hts wc_L_act_X6 tyX6 tyX6_ok nmX6 hown hK hP hD hS 0 rfl rfl 1 (by decide) (hts _ wd_L_act_1) (fun _ h9 => h9) rfl (by decide +kernel) rfl rfl (Nat.le_of_ble_eq_true rfl) dL_act_184 (fun H locs hP hD hS => ?_)
                obtain ⟨hP, hD⟩ := gPD_swap (A := [(si, .inr (6, [.ref fa, .ref ra_11, .ref op, .ref oc, .ref ow, .int (nI nw), .int (nI day), .int co])), (fa, .inl (cI, 9, .inl (Q 0)))]) (B := [(op, .inl (cO, nq, .inr (.inr (.inr (.inr (sRf ad 1 nq)))))), (oc, .inl (cO, nr, .inr (.inr (.inr (.inr (sRf ad 2 nr)))))), (ow, .inl (cW, 60, .inr (.inr (.inr (.inr (sRf ad 3 nw))))))]) (o := (ob, .inl (cO, nb, .inr (.inr (.inr (.inr (sRf ad 0 nb))))))) (n := (ra_11, .inl (cO, nb + 1, .inr (.inr (.inr (.inr (moF (sRf ad 0 nb) nb q_7))))))) (R := (([(q_7, .inl (cI, 4, .inl (upd (upd (upd (upd (fun _ => 0) 0 (nI (1 + (bw x 9)))) 1 (nI (bw (x >>> (2 &&& 31)) 10))) 2 (nI (bw (x >>> (3 &&& 31)) 201))) 3 0)))] ++ ts) ++ gG a cI cZ Q T nb nq nw nr day nbt nqt nwt dayt co ca bo)) hP hD
                have hP : va_P D vwCl (sW si fa ra_11 op oc ow cI cW cO (Q 0) (nb + 1) nq nr (moF (sRf ad 0 nb) nb q_7) (sRf ad 1 nq) (sRf ad 2 nr) (sRf ad 3 nw) (nI nw) (nI day) co ++ ((([(q_7, .inl (cI, 4, .inl (upd (upd (upd (upd (fun _ => 0) 0 (nI (1 + (bw x 9)))) 1 (nI (bw (x >>> (2 &&& 31)) 10))) 2 (nI (bw (x >>> (3 &&& 31)) 201))) 3 0)))] ++ ts) ++ gG a cI cZ Q T nb nq nw nr day nbt nqt nwt dayt co ca bo) ++ sPl nb nq nr nw ad (sEn cI (Q 1) (Q 2) (Q 3) (Q 4) (Q 5) (Q 6) (Q 7) (Q 8) (Q 9) (Q 11) (Q 12) (Q 13) ca sv rl))) _ := hP
                have hD : va_D A (sW si fa ra_11 op oc ow cI cW cO (Q 0) (nb + 1) nq nr (moF (sRf ad 0 nb) nb q_7) (sRf ad 1 nq) (sRf ad 2 nr) (sRf ad 3 nw) (nI nw) (nI day) co ++ ((([(q_7, .inl (cI, 4, .inl (upd (upd (upd (upd (fun _ => 0) 0 (nI (1 + (bw x 9)))) 1 (nI (bw (x >>> (2 &&& 31)) 10))) 2 (nI (bw (x >>> (3 &&& 31)) 201))) 3 0)))] ++ ts) ++ gG a cI cZ Q T nb nq nw nr day nbt nqt nwt dayt co ca bo) ++ sPl nb nq nr nw ad (sEn cI (Q 1) (Q 2) (Q 3) (Q 4) (Q 5) (Q 6) (Q 7) (Q 8) (Q 9) (Q 11) (Q 12) (Q 13) ca sv rl))) := hD
                obtain ⟨hP, hD⟩ := gPD_key (key := (0, nb)) sK_n0 (sK_p0 _ _ _ _) hP hD
                rw [sU_n0, sRf_mo0] at hP hD
                have hP : va_P D vwCl (sW si fa ra_11 op oc ow cI cW cO (Q 0) (nb + 1) nq nr (sRf (adU0 ad nb q_7) 0 (nb + 1)) (sRf (adU0 ad nb q_7) 1 nq) (sRf (adU0 ad nb q_7) 2 nr) (sRf (adU0 ad nb q_7) 3 nw) (nI nw) (nI day) co ++ ((ts ++ gG a cI cZ Q T nb nq nw nr day nbt nqt nwt dayt co ca bo) ++ sPl (nb + 1) nq nr nw (adU0 ad nb q_7) (sEn cI (upd (Q 1) nb (nI (1 + (bw x 9)))) (upd (Q 2) nb (nI (bw (x >>> (2 &&& 31)) 10))) (upd (Q 3) nb (nI (bw (x >>> (3 &&& 31)) 201))) (upd (Q 4) nb 0) (Q 5) (Q 6) (Q 7) (Q 8) (Q 9) (Q 11) (Q 12) (Q 13) ca sv rl))) _ := hP
                have hD : va_D A (sW si fa ra_11 op oc ow cI cW cO (Q 0) (nb + 1) nq nr (sRf (adU0 ad nb q_7) 0 (nb + 1)) (sRf (adU0 ad nb q_7) 1 nq) (sRf (adU0 ad nb q_7) 2 nr) (sRf (adU0 ad nb q_7) 3 nw) (nI nw) (nI day) co ++ ((ts ++ gG a cI cZ Q T nb nq nw nr day nbt nqt nwt dayt co ca bo) ++ sPl (nb + 1) nq nr nw (adU0 ad nb q_7) (sEn cI (upd (Q 1) nb (nI (1 + (bw x 9)))) (upd (Q 2) nb (nI (bw (x >>> (2 &&& 31)) 10))) (upd (Q 3) nb (nI (bw (x >>> (3 &&& 31)) 201))) (upd (Q 4) nb 0) (Q 5) (Q 6) (Q 7) (Q 8) (Q 9) (Q 11) (Q 12) (Q 13) ca sv rl))) := hD
                refine lv_aload_n hx hb dL_act_187 rfl (lv_at hl 4 rfl) ?_
                refine lv_iconst (v := 1) hx hb dL_act_188 (by decide) ?_
                refine lv_iload_n hx hb dL_act_189 rfl (lv_at hl 6 rfl) ?_
                refine lv_bipush (v := 9) hx hb dL_act_190 (by decide) ?_
                refine gw_top (y := nI 9) rfl ?_
                refine va_calli (va_runS (As := [.int x, .int (nI 9)]) (rest := [.int 1, .ref (a 0)]) ⟨hx, hb, hml, hown, hts⟩ (met_L_below l D cI cZ cW cO x 9 (by first | assumption | omega) (by first | assumption | omega)) (va_cwS 2 hts gL_act_L_below rfl rfl rfl (by decide +kernel) ⟨Nat.le_of_ble_eq_true rfl, Nat.le_of_ble_eq_true rfl⟩) (gv_psr hK (wc := []) (fun _ _ h9 => by cases h9)) rfl rfl hl.1 rfl (lv_room (Nat.le_of_ble_eq_true rfl)) dL_act_192 ⟨(by show _ ≤ 2; omega), (by show _ ≤ 12; omega)⟩) hS (fun _ _ z => z.elim) (fun _ z => z.elim) (fun r_12 _ t H1 locs ht hvm hw hB hz1 hk1 hS => ?_)
                have hP := gw_ro hP hk1
                generalize H1 = H at hP hS ⊢
                subst hw
                refine lv_iadd hx hb dL_act_195 ?_
                refine gw_top (y := nI (1 + (bw x 9))) (nI_add 1 (bw x 9)) ?_
                refine lv_iload_n hx hb dL_act_196 rfl (lv_at hl 6 rfl) ?_
                refine lv_iconst (v := 2) hx hb dL_act_197 (by decide) ?_
                refine lv_ishr hx hb dL_act_198 ?_
                refine lv_bipush (v := 10) hx hb dL_act_199 (by decide) ?_
                refine gw_top (y := nI 10) rfl ?_
                refine va_calli (va_runS (As := [.int (x >>> (2 &&& 31)), .int (nI 10)]) (rest := [.int (nI (1 + (bw x 9))), .ref (a 0)]) ⟨hx, hb, hml, hown, hts⟩ (met_L_below l D cI cZ cW cO (x >>> (2 &&& 31)) 10 (by first | assumption | omega) (by first | assumption | omega)) (va_cwS 2 hts gL_act_L_below rfl rfl rfl (by decide +kernel) ⟨Nat.le_of_ble_eq_true rfl, Nat.le_of_ble_eq_true rfl⟩) (gv_psr hK (wc := []) (fun _ _ h9 => by cases h9)) rfl rfl hl.1 rfl (lv_room (Nat.le_of_ble_eq_true rfl)) dL_act_201 ⟨(by show _ ≤ 2; omega), (by show _ ≤ 12; omega)⟩) hS (fun _ _ z => z.elim) (fun _ z => z.elim) (fun r_13 _ t H1 locs ht hvm hw hB hz1 hk1 hS => ?_)
                have hP := gw_ro hP hk1
                generalize H1 = H at hP hS ⊢
                subst hw
                refine lv_iload_n hx hb dL_act_204 rfl (lv_at hl 6 rfl) ?_
                refine lv_iconst (v := 3) hx hb dL_act_205 (by decide) ?_
                refine lv_ishr hx hb dL_act_206 ?_
                refine lv_sipush (v := 201) hx hb dL_act_207 (by decide) ?_
                refine gw_top (y := nI 201) rfl ?_
                refine va_calli (va_runS (As := [.int (x >>> (3 &&& 31)), .int (nI 201)]) (rest := [.int (nI (bw (x >>> (2 &&& 31)) 10)), .int (nI (1 + (bw x 9))), .ref (a 0)]) ⟨hx, hb, hml, hown, hts⟩ (met_L_below l D cI cZ cW cO (x >>> (3 &&& 31)) 201 (by first | assumption | omega) (by first | assumption | omega)) (va_cwS 2 hts gL_act_L_below rfl rfl rfl (by decide +kernel) ⟨Nat.le_of_ble_eq_true rfl, Nat.le_of_ble_eq_true rfl⟩) (gv_psr hK (wc := []) (fun _ _ h9 => by cases h9)) rfl rfl hl.1 rfl (lv_room (Nat.le_of_ble_eq_true rfl)) dL_act_210 ⟨(by show _ ≤ 2; omega), (by show _ ≤ 12; omega)⟩) hS (fun _ _ z => z.elim) (fun _ z => z.elim) (fun r_14 _ t H1 locs ht hvm hw hB hz1 hk1 hS => ?_)
                have hP := gw_ro hP hk1
                generalize H1 = H at hP hS ⊢
                subst hw
                refine va_calli (va_runV (As := [.int (nI (1 + (bw x 9))), .int (nI (bw (x >>> (2 &&& 31)) 10)), .int (nI (bw (x >>> (3 &&& 31)) 201))]) (rest := []) ⟨hx, hb, hml, hown, hts⟩ (met_W_open l D cI cZ cW cO a Q T nb nq nw nr day nbt nqt nwt dayt co ca bo (nI (1 + (bw x 9))) (nI (bw (x >>> (2 &&& 31)) 10)) (nI (bw (x >>> (3 &&& 31)) 201)) (gw_in1 (n := 9) (by omega) (by have h9 := bw_lt (v := x) (n := 9) (by decide); omega) (by decide)) (gw_in (n := 9) (by have h9 := bw_lt (v := x >>> (2 &&& 31)) (n := 10) (by decide); omega) (by decide)) (gw_in (n := 200) (by have h9 := bw_lt (v := x >>> (3 &&& 31)) (n := 201) (by decide); omega) (by decide)) (by first | assumption | omega)) (cwV 3 hts gL_act_X5_open rfl rfl rfl (by decide +kernel) ⟨Nat.le_of_ble_eq_true rfl, Nat.le_of_ble_eq_true rfl⟩) (gv_pvw hK (gP_G hP) (gD_G hD) 5 rfl rfl rfl) rfl rfl hl.1 rfl (lv_room (Nat.le_of_ble_eq_true rfl)) dL_act_213 ⟨(by show _ ≤ 2; omega), (by show _ ≤ 12; omega)⟩) hS (fun q _ h => gA_G hD q h) (gA_G hD) (fun r_15 _ t H1 locs ht hvm hw hB hz1 hk1 hS => ?_)
                have hB : va_P D vwCl (gG a cI cZ (gOpen Q nb (nI (1 + (bw x 9))) (nI (bw (x >>> (2 &&& 31)) 10)) (nI (bw (x >>> (3 &&& 31)) 201))) T (nb + 1) nq nw nr day nbt nqt nwt dayt co ca bo) t.heap := hB
                rw [ht] at hB
                obtain ⟨hP, hD⟩ := gPD_G (G' := gG a cI cZ (gOpen Q nb (nI (1 + (bw x 9))) (nI (bw (x >>> (2 &&& 31)) 10)) (nI (bw (x >>> (3 &&& 31)) 201))) T (nb + 1) nq nw nr day nbt nqt nwt dayt co ca bo) hP hD rfl hk1 hB
                generalize H1 = H at hP hS ⊢
                have hP : va_P D vwCl (sW si fa ra_11 op oc ow cI cW cO (Q 0) (nb + 1) nq nr (sRf (adU0 ad nb q_7) 0 (nb + 1)) (sRf (adU0 ad nb q_7) 1 nq) (sRf (adU0 ad nb q_7) 2 nr) (sRf (adU0 ad nb q_7) 3 nw) (nI nw) (nI day) co ++ ((ts ++ gG a cI cZ (gOpen Q nb (nI (1 + (bw x 9))) (nI (bw (x >>> (2 &&& 31)) 10)) (nI (bw (x >>> (3 &&& 31)) 201))) T (nb + 1) nq nw nr day nbt nqt nwt dayt co ca bo) ++ sPl (nb + 1) nq nr nw (adU0 ad nb q_7) (sEn cI (upd (Q 1) nb (nI (1 + (bw x 9)))) (upd (Q 2) nb (nI (bw (x >>> (2 &&& 31)) 10))) (upd (Q 3) nb (nI (bw (x >>> (3 &&& 31)) 201))) (upd (Q 4) nb 0) (Q 5) (Q 6) (Q 7) (Q 8) (Q 9) (Q 11) (Q 12) (Q 13) ca sv rl))) _ := hP
                have hD : va_D A (sW si fa ra_11 op oc ow cI cW cO (Q 0) (nb + 1) nq nr (sRf (adU0 ad nb q_7) 0 (nb + 1)) (sRf (adU0 ad nb q_7) 1 nq) (sRf (adU0 ad nb q_7) 2 nr) (sRf (adU0 ad nb q_7) 3 nw) (nI nw) (nI day) co ++ ((ts ++ gG a cI cZ (gOpen Q nb (nI (1 + (bw x 9))) (nI (bw (x >>> (2 &&& 31)) 10)) (nI (bw (x >>> (3 &&& 31)) 201))) T (nb + 1) nq nw nr day nbt nqt nwt dayt co ca bo) ++ sPl (nb + 1) nq nr nw (adU0 ad nb q_7) (sEn cI (upd (Q 1) nb (nI (1 + (bw x 9)))) (upd (Q 2) nb (nI (bw (x >>> (2 &&& 31)) 10))) (upd (Q 3) nb (nI (bw (x >>> (3 &&& 31)) 201))) (upd (Q 4) nb 0) (Q 5) (Q 6) (Q 7) (Q 8) (Q 9) (Q 11) (Q 12) (Q 13) ca sv rl))) := hD
                subst hw
                refine lv_iload_n hx hb dL_act_216 rfl (lv_at hl 3 rfl) ?_
                refine lv_icmp_ne (tgt := 224) hx hb dL_act_217 (by decide) (fun c_16 => (by first | exact absurd c_16 (rfl : nI nb = nI nb) | exact absurd (rfl : nI nb = nI nb) c_16)) (fun c_16 => ?_)
                refine lv_iconst (v := 1) hx hb dL_act_220 (by decide) ?_
                refine lv_goto (tgt := 225) hx hb dL_act_221 (by decide) ?_
                have h4 : upd (Q 4) nb 0 = Q 4 := upd_same (hX.e4 nb (Nat.le_refl _))
                rw [h4] at hP hD
                refine W.widen (k := 2) (n := 12) (by omega) (by omega) ?_
                exact W.zret (v := 1) hx hb hr rfl (fun t ht hW => ⟨⟨_, (), rfl, rfl, (⟨ra_11, op, oc, adU0 ad nb q_7, gOpen Q nb (nI (1 + bw x 9)) (nI (bw (x >>> (2 &&& 31)) 10)) (nI (bw (x >>> (3 &&& 31)) 201)), nb + 1, nq, nr, co, ca, bo, sv, rl, gw_hh ht hP, hD, hI.bedNew (nI (bw (x >>> (2 &&& 31)) 10)) (nI (bw (x >>> (3 &&& 31)) 201)) hb5 (gw_in1 (n := 9) (by omega) (by have h9 := bw_lt (v := x) (n := 9) (by decide); omega) (by decide)), hX.bedNew (gw_in (n := 200) (by have h9 := bw_lt (v := x >>> (3 &&& 31)) (n := 201) (by decide); omega) (by decide)), aChk_same rfl rfl rfl, Nat.le_refl _⟩)⟩, hS.F ht⟩) hS.2.2 dL_act_225
              · skip
                refine lv_iconst (v := 1) hx hb dL_act_133 (by decide) ?_
                refine W.widen (k := 2) (n := 12) (by omega) (by omega) ?_
                exact W.zret (v := 1) hx hb hr rfl (fun t ht hW => ⟨⟨_, (), rfl, rfl, (⟨ob, op, oc, ad, Q, nb, nq, nr, co, ca, bo, sv, rl, gw_hh ht hP, hD, hI, hX, aChk_same rfl rfl rfl, Nat.le_refl _⟩)⟩, hS.F ht⟩) hS.2.2 dL_act_134
            · skip
              refine lv_tableIn (off := 152) (tgt := 226) hx hb dL_act_74 (by decide) (by decide) rfl (by decide) ?_
              refine lv_iload hx hb dL_act_226 (lv_at hl 2 rfl) ?_
              refine lv_bipush (v := 6) hx hb dL_act_228 (by decide) ?_
              refine lv_icmp_ne (tgt := 235) hx hb dL_act_230 (by decide) (fun q6 => ?_) (fun q6 => ?_)
              · skip
                have hq6 : nq < 6 := by have h9 : nq ≠ 6 := (fun e9 => q6 (by rw [e9]; rfl)); omega
                refine lv_aload_n hx hb dL_act_235 rfl (lv_at hl 5 rfl) ?_
                refine lv_aload_n hx hb dL_act_236 rfl (lv_at hl 5 rfl) ?_
                refine va_get (D := D) (ci := 6) (v := .ref op) (C := RX6) (T := TX6) (N := 8) hx hb hts wc_L_act_X6 hown hK hP 0 rfl rfl 2 (by decide) (hts _ wd_L_act_2) (fun _ h9 => h9) rfl dL_act_237 ?_
                refine lv_iconst (v := 4) hx hb dL_act_240 (by decide) ?_
                refine gw_newI hx hb (hts _ wd_L_act_6) hK 0 rfl hP hD hS hA (n := 4) (N' := 4) (by decide) (by decide) (by decide) (Nat.le_of_ble_eq_true rfl) (Nat.le_of_ble_eq_true rfl) dL_act_241 (fun q_18 H hP hD hS => ?_)
                obtain ⟨hP, hD⟩ := gPD_new hP hD
                have hP : va_P D vwCl (sW si fa ob op oc ow cI cW cO (Q 0) nb nq nr (sRf ad 0 nb) (sRf ad 1 nq) (sRf ad 2 nr) (sRf ad 3 nw) (nI nw) (nI day) co ++ ((([(q_18, .inl (cI, 4, .inl (fun _ => 0)))] ++ ts) ++ gG a cI cZ Q T nb nq nw nr day nbt nqt nwt dayt co ca bo) ++ sPl nb nq nr nw ad (sEn cI (Q 1) (Q 2) (Q 3) (Q 4) (Q 5) (Q 6) (Q 7) (Q 8) (Q 9) (Q 11) (Q 12) (Q 13) ca sv rl))) _ := hP
                have hD : va_D A (sW si fa ob op oc ow cI cW cO (Q 0) nb nq nr (sRf ad 0 nb) (sRf ad 1 nq) (sRf ad 2 nr) (sRf ad 3 nw) (nI nw) (nI day) co ++ ((([(q_18, .inl (cI, 4, .inl (fun _ => 0)))] ++ ts) ++ gG a cI cZ Q T nb nq nw nr day nbt nqt nwt dayt co ca bo) ++ sPl nb nq nr nw ad (sEn cI (Q 1) (Q 2) (Q 3) (Q 4) (Q 5) (Q 6) (Q 7) (Q 8) (Q 9) (Q 11) (Q 12) (Q 13) ca sv rl))) := hD
                refine W.widen (k := 1) (n := 4) (by omega) (by omega) ?_
                refine lv_dup hx hb dL_act_243 rfl ?_
                refine lv_iconst (v := 0) hx hb dL_act_244 (by decide) ?_
                refine lv_iconst (v := 1) hx hb dL_act_245 (by decide) ?_
                refine lv_iload_n hx hb dL_act_246 rfl (lv_at hl 6 rfl) ?_
                refine lv_iconst (v := 2) hx hb dL_act_247 (by decide) ?_
                refine lv_ishr hx hb dL_act_248 ?_
                refine lv_bipush (v := 9) hx hb dL_act_249 (by decide) ?_
                refine gw_top (y := nI 9) rfl ?_
                refine va_calli (va_runS (As := [.int (x >>> (2 &&& 31)), .int (nI 9)]) (rest := [.int 1, .int 0, .ref q_18, .ref q_18, .ref op, .ref si]) ⟨hx, hb, hml, hown, hts⟩ (met_L_below l D cI cZ cW cO (x >>> (2 &&& 31)) 9 (by first | assumption | omega) (by first | assumption | omega)) (va_cwS 2 hts gL_act_L_below rfl rfl rfl (by decide +kernel) ⟨Nat.le_of_ble_eq_true rfl, Nat.le_of_ble_eq_true rfl⟩) (gv_psr hK (wc := []) (fun _ _ h9 => by cases h9)) rfl rfl hl.1 rfl (lv_room (Nat.le_of_ble_eq_true rfl)) dL_act_251 ⟨(by show _ ≤ 2; omega), (by show _ ≤ 12; omega)⟩) hS (fun _ _ z => z.elim) (fun _ z => z.elim) (fun r_19 _ t H1 locs ht hvm hw hB hz1 hk1 hS => ?_)
                have hP := gw_ro hP hk1
                generalize H1 = H at hP hS ⊢
                subst hw
                refine lv_iadd hx hb dL_act_254 ?_
                refine gw_top (y := nI (1 + (bw (x >>> (2 &&& 31)) 9))) (nI_add 1 (bw (x >>> (2 &&& 31)) 9)) ?_
                refine gw_top2 (y := nI 0) rfl ?_
                refine gw_iast hx hb hK hP hD hS 6 0 (k := 0) rfl rfl (by first | decide | omega) (by decide) dL_act_255 (fun H locs hP hD hS => ?_)
                have hP : va_P D vwCl (sW si fa ob op oc ow cI cW cO (Q 0) nb nq nr (sRf ad 0 nb) (sRf ad 1 nq) (sRf ad 2 nr) (sRf ad 3 nw) (nI nw) (nI day) co ++ ((([(q_18, .inl (cI, 4, .inl (upd (fun _ => 0) 0 (nI (1 + (bw (x >>> (2 &&& 31)) 9))))))] ++ ts) ++ gG a cI cZ Q T nb nq nw nr day nbt nqt nwt dayt co ca bo) ++ sPl nb nq nr nw ad (sEn cI (Q 1) (Q 2) (Q 3) (Q 4) (Q 5) (Q 6) (Q 7) (Q 8) (Q 9) (Q 11) (Q 12) (Q 13) ca sv rl))) _ := hP
                have hD : va_D A (sW si fa ob op oc ow cI cW cO (Q 0) nb nq nr (sRf ad 0 nb) (sRf ad 1 nq) (sRf ad 2 nr) (sRf ad 3 nw) (nI nw) (nI day) co ++ ((([(q_18, .inl (cI, 4, .inl (upd (fun _ => 0) 0 (nI (1 + (bw (x >>> (2 &&& 31)) 9))))))] ++ ts) ++ gG a cI cZ Q T nb nq nw nr day nbt nqt nwt dayt co ca bo) ++ sPl nb nq nr nw ad (sEn cI (Q 1) (Q 2) (Q 3) (Q 4) (Q 5) (Q 6) (Q 7) (Q 8) (Q 9) (Q 11) (Q 12) (Q 13) ca sv rl))) := hD
                refine lv_dup hx hb dL_act_256 rfl ?_
                refine lv_iconst (v := 1) hx hb dL_act_257 (by decide) ?_
                refine lv_iconst (v := (-1)) hx hb dL_act_258 (by decide) ?_
                refine gw_top2 (y := nI 1) rfl ?_
                refine gw_iast hx hb hK hP hD hS 6 0 (k := 1) rfl rfl (by first | decide | omega) (by decide) dL_act_259 (fun H locs hP hD hS => ?_)
                have hP : va_P D vwCl (sW si fa ob op oc ow cI cW cO (Q 0) nb nq nr (sRf ad 0 nb) (sRf ad 1 nq) (sRf ad 2 nr) (sRf ad 3 nw) (nI nw) (nI day) co ++ ((([(q_18, .inl (cI, 4, .inl (upd (upd (fun _ => 0) 0 (nI (1 + (bw (x >>> (2 &&& 31)) 9)))) 1 (-1))))] ++ ts) ++ gG a cI cZ Q T nb nq nw nr day nbt nqt nwt dayt co ca bo) ++ sPl nb nq nr nw ad (sEn cI (Q 1) (Q 2) (Q 3) (Q 4) (Q 5) (Q 6) (Q 7) (Q 8) (Q 9) (Q 11) (Q 12) (Q 13) ca sv rl))) _ := hP
                have hD : va_D A (sW si fa ob op oc ow cI cW cO (Q 0) nb nq nr (sRf ad 0 nb) (sRf ad 1 nq) (sRf ad 2 nr) (sRf ad 3 nw) (nI nw) (nI day) co ++ ((([(q_18, .inl (cI, 4, .inl (upd (upd (fun _ => 0) 0 (nI (1 + (bw (x >>> (2 &&& 31)) 9)))) 1 (-1))))] ++ ts) ++ gG a cI cZ Q T nb nq nw nr day nbt nqt nwt dayt co ca bo) ++ sPl nb nq nr nw ad (sEn cI (Q 1) (Q 2) (Q 3) (Q 4) (Q 5) (Q 6) (Q 7) (Q 8) (Q 9) (Q 11) (Q 12) (Q 13) ca sv rl))) := hD
                refine lv_dup hx hb dL_act_260 rfl ?_
                refine lv_iconst (v := 2) hx hb dL_act_261 (by decide) ?_
                refine lv_iconst (v := 0) hx hb dL_act_262 (by decide) ?_
                refine gw_top2 (y := nI 2) rfl ?_
                refine gw_iast hx hb hK hP hD hS 6 0 (k := 2) rfl rfl (by first | decide | omega) (by decide) dL_act_263 (fun H locs hP hD hS => ?_)
                have hP : va_P D vwCl (sW si fa ob op oc ow cI cW cO (Q 0) nb nq nr (sRf ad 0 nb) (sRf ad 1 nq) (sRf ad 2 nr) (sRf ad 3 nw) (nI nw) (nI day) co ++ ((([(q_18, .inl (cI, 4, .inl (upd (upd (upd (fun _ => 0) 0 (nI (1 + (bw (x >>> (2 &&& 31)) 9)))) 1 (-1)) 2 0)))] ++ ts) ++ gG a cI cZ Q T nb nq nw nr day nbt nqt nwt dayt co ca bo) ++ sPl nb nq nr nw ad (sEn cI (Q 1) (Q 2) (Q 3) (Q 4) (Q 5) (Q 6) (Q 7) (Q 8) (Q 9) (Q 11) (Q 12) (Q 13) ca sv rl))) _ := hP
                have hD : va_D A (sW si fa ob op oc ow cI cW cO (Q 0) nb nq nr (sRf ad 0 nb) (sRf ad 1 nq) (sRf ad 2 nr) (sRf ad 3 nw) (nI nw) (nI day) co ++ ((([(q_18, .inl (cI, 4, .inl (upd (upd (upd (fun _ => 0) 0 (nI (1 + (bw (x >>> (2 &&& 31)) 9)))) 1 (-1)) 2 0)))] ++ ts) ++ gG a cI cZ Q T nb nq nw nr day nbt nqt nwt dayt co ca bo) ++ sPl nb nq nr nw ad (sEn cI (Q 1) (Q 2) (Q 3) (Q 4) (Q 5) (Q 6) (Q 7) (Q 8) (Q 9) (Q 11) (Q 12) (Q 13) ca sv rl))) := hD
                refine lv_dup hx hb dL_act_264 rfl ?_
                refine lv_iconst (v := 3) hx hb dL_act_265 (by decide) ?_
                refine lv_iconst (v := 0) hx hb dL_act_266 (by decide) ?_
                refine gw_top2 (y := nI 3) rfl ?_
                refine gw_iast hx hb hK hP hD hS 6 0 (k := 3) rfl rfl (by first | decide | omega) (by decide) dL_act_267 (fun H locs hP hD hS => ?_)
                have hP : va_P D vwCl (sW si fa ob op oc ow cI cW cO (Q 0) nb nq nr (sRf ad 0 nb) (sRf ad 1 nq) (sRf ad 2 nr) (sRf ad 3 nw) (nI nw) (nI day) co ++ ((([(q_18, .inl (cI, 4, .inl (upd (upd (upd (upd (fun _ => 0) 0 (nI (1 + (bw (x >>> (2 &&& 31)) 9)))) 1 (-1)) 2 0) 3 0)))] ++ ts) ++ gG a cI cZ Q T nb nq nw nr day nbt nqt nwt dayt co ca bo) ++ sPl nb nq nr nw ad (sEn cI (Q 1) (Q 2) (Q 3) (Q 4) (Q 5) (Q 6) (Q 7) (Q 8) (Q 9) (Q 11) (Q 12) (Q 13) ca sv rl))) _ := hP
                have hD : va_D A (sW si fa ob op oc ow cI cW cO (Q 0) nb nq nr (sRf ad 0 nb) (sRf ad 1 nq) (sRf ad 2 nr) (sRf ad 3 nw) (nI nw) (nI day) co ++ ((([(q_18, .inl (cI, 4, .inl (upd (upd (upd (upd (fun _ => 0) 0 (nI (1 + (bw (x >>> (2 &&& 31)) 9)))) 1 (-1)) 2 0) 3 0)))] ++ ts) ++ gG a cI cZ Q T nb nq nw nr day nbt nqt nwt dayt co ca bo) ++ sPl nb nq nr nw ad (sEn cI (Q 1) (Q 2) (Q 3) (Q 4) (Q 5) (Q 6) (Q 7) (Q 8) (Q 9) (Q 11) (Q 12) (Q 13) ca sv rl))) := hD
                have hFc := gv_free hD hS hA
                refine va_callr (va_runS (As := [.ref op, .ref q_18]) (rest := [.ref si]) ⟨hx, hb, hml, hown, hts⟩ (met_X6_more l D cI cZ cW cO op q_18 nq 4 3 6 (sRf ad 1 nq) (upd (upd (upd (upd (fun _ => 0) 0 (nI (1 + (bw (x >>> (2 &&& 31)) 9)))) 1 (-1)) 2 0) 3 0) (sW si fa ob op oc ow cI cW cO (Q 0) nb nq nr (sRf ad 0 nb) (sRf ad 1 nq) (sRf ad 2 nr) (sRf ad 3 nw) (nI nw) (nI day) co ++ ((([(q_18, .inl (cI, 4, .inl (upd (upd (upd (upd (fun _ => 0) 0 (nI (1 + (bw (x >>> (2 &&& 31)) 9)))) 1 (-1)) 2 0) 3 0)))] ++ ts) ++ gG a cI cZ Q T nb nq nw nr day nbt nqt nwt dayt co ca bo) ++ sPl nb nq nr nw ad (sEn cI (Q 1) (Q 2) (Q 3) (Q 4) (Q 5) (Q 6) (Q 7) (Q 8) (Q 9) (Q 11) (Q 12) (Q 13) ca sv rl))) (by omega) rfl rfl (fun k9 hk9 => by obtain ⟨i9, hi9, -⟩ := sAt1 hP hk9; exact ⟨_, i9, _, sRf_at hk9, hi9⟩) H.size) (va_cwS 2 hts gL_act_X6_more rfl rfl rfl (by decide +kernel) ⟨Nat.le_of_ble_eq_true rfl, Nat.le_of_ble_eq_true rfl⟩) (gv_pss hK hR hP hD) rfl rfl hl.1 rfl (lv_room (Nat.le_of_ble_eq_true rfl)) dL_act_268 ⟨(by show _ ≤ 2; omega), (by show _ ≤ 12; omega)⟩) hS (fun q _ h => hFc q h) hFc (fun u_ ra_20 t H1 locs ht hvm hw hB hz1 hk1 hS => ?_)
                have hP1 : va_P D vwCl ((sW si fa ob op oc ow cI cW cO (Q 0) nb nq nr (sRf ad 0 nb) (sRf ad 1 nq) (sRf ad 2 nr) (sRf ad 3 nw) (nI nw) (nI day) co ++ ((([(q_18, .inl (cI, 4, .inl (upd (upd (upd (upd (fun _ => 0) 0 (nI (1 + (bw (x >>> (2 &&& 31)) 9)))) 1 (-1)) 2 0) 3 0)))] ++ ts) ++ gG a cI cZ Q T nb nq nw nr day nbt nqt nwt dayt co ca bo) ++ sPl nb nq nr nw ad (sEn cI (Q 1) (Q 2) (Q 3) (Q 4) (Q 5) (Q 6) (Q 7) (Q 8) (Q 9) (Q 11) (Q 12) (Q 13) ca sv rl))) ++ [(ra_20, .inl (cO, nq + 1, .inr (.inr (.inr (.inr (moF (sRf ad 1 nq) nq q_18))))))]) t.heap := hB.1
                have hD1 : va_D A ((sW si fa ob op oc ow cI cW cO (Q 0) nb nq nr (sRf ad 0 nb) (sRf ad 1 nq) (sRf ad 2 nr) (sRf ad 3 nw) (nI nw) (nI day) co ++ ((([(q_18, .inl (cI, 4, .inl (upd (upd (upd (upd (fun _ => 0) 0 (nI (1 + (bw (x >>> (2 &&& 31)) 9)))) 1 (-1)) 2 0) 3 0)))] ++ ts) ++ gG a cI cZ Q T nb nq nw nr day nbt nqt nwt dayt co ca bo) ++ sPl nb nq nr nw ad (sEn cI (Q 1) (Q 2) (Q 3) (Q 4) (Q 5) (Q 6) (Q 7) (Q 8) (Q 9) (Q 11) (Q 12) (Q 13) ca sv rl))) ++ [(ra_20, .inl (cO, nq + 1, .inr (.inr (.inr (.inr (moF (sRf ad 1 nq) nq q_18))))))]) := hB.2.weaken (fun _ _ _ h9 => hFc _ h9)
                rw [ht] at hP1
                obtain ⟨hP, hD⟩ := gPD_new hP1 hD1
                generalize H1 = H at hP hS ⊢
                have hP : va_P D vwCl (sW si fa ob op oc ow cI cW cO (Q 0) nb nq nr (sRf ad 0 nb) (sRf ad 1 nq) (sRf ad 2 nr) (sRf ad 3 nw) (nI nw) (nI day) co ++ ((([(ra_20, .inl (cO, nq + 1, .inr (.inr (.inr (.inr (moF (sRf ad 1 nq) nq q_18)))))), (q_18, .inl (cI, 4, .inl (upd (upd (upd (upd (fun _ => 0) 0 (nI (1 + (bw (x >>> (2 &&& 31)) 9)))) 1 (-1)) 2 0) 3 0)))] ++ ts) ++ gG a cI cZ Q T nb nq nw nr day nbt nqt nwt dayt co ca bo) ++ sPl nb nq nr nw ad (sEn cI (Q 1) (Q 2) (Q 3) (Q 4) (Q 5) (Q 6) (Q 7) (Q 8) (Q 9) (Q 11) (Q 12) (Q 13) ca sv rl))) _ := hP
                have hD : va_D A (sW si fa ob op oc ow cI cW cO (Q 0) nb nq nr (sRf ad 0 nb) (sRf ad 1 nq) (sRf ad 2 nr) (sRf ad 3 nw) (nI nw) (nI day) co ++ ((([(ra_20, .inl (cO, nq + 1, .inr (.inr (.inr (.inr (moF (sRf ad 1 nq) nq q_18)))))), (q_18, .inl (cI, 4, .inl (upd (upd (upd (upd (fun _ => 0) 0 (nI (1 + (bw (x >>> (2 &&& 31)) 9)))) 1 (-1)) 2 0) 3 0)))] ++ ts) ++ gG a cI cZ Q T nb nq nw nr day nbt nqt nwt dayt co ca bo) ++ sPl nb nq nr nw ad (sEn cI (Q 1) (Q 2) (Q 3) (Q 4) (Q 5) (Q 6) (Q 7) (Q 8) (Q 9) (Q 11) (Q 12) (Q 13) ca sv rl))) := hD
                refine W.widen (k := 2) (n := 11) (by omega) (by omega) ?_
                refine va_put (D := D) (ci := 6) (v := .ref ra_20) (ty := .array (.array .int)) (C := RX6) (T := TX6) (N := 8) hx hb hts wc_L_act_X6 tyX6 tyX6_ok nmX6 hown hK hP hD hS 0 rfl rfl 2 (by decide) (hts _ wd_L_act_2) (fun _ h9 => h9) rfl (by decide +kernel) rfl rfl (Nat.le_of_ble_eq_true rfl) dL_act_271 (fun H locs hP hD hS => ?_)
                obtain ⟨hP, hD⟩ := gPD_swap (A := [(si, .inr (6, [.ref fa, .ref ob, .ref ra_20, .ref oc, .ref ow, .int (nI nw), .int (nI day), .int co])), (fa, .inl (cI, 9, .inl (Q 0))), (ob, .inl (cO, nb, .inr (.inr (.inr (.inr (sRf ad 0 nb))))))]) (B := [(oc, .inl (cO, nr, .inr (.inr (.inr (.inr (sRf ad 2 nr)))))), (ow, .inl (cW, 60, .inr (.inr (.inr (.inr (sRf ad 3 nw))))))]) (o := (op, .inl (cO, nq, .inr (.inr (.inr (.inr (sRf ad 1 nq))))))) (n := (ra_20, .inl (cO, nq + 1, .inr (.inr (.inr (.inr (moF (sRf ad 1 nq) nq q_18))))))) (R := (([(q_18, .inl (cI, 4, .inl (upd (upd (upd (upd (fun _ => 0) 0 (nI (1 + (bw (x >>> (2 &&& 31)) 9)))) 1 (-1)) 2 0) 3 0)))] ++ ts) ++ gG a cI cZ Q T nb nq nw nr day nbt nqt nwt dayt co ca bo)) hP hD
                have hP : va_P D vwCl (sW si fa ob ra_20 oc ow cI cW cO (Q 0) nb (nq + 1) nr (sRf ad 0 nb) (moF (sRf ad 1 nq) nq q_18) (sRf ad 2 nr) (sRf ad 3 nw) (nI nw) (nI day) co ++ ((([(q_18, .inl (cI, 4, .inl (upd (upd (upd (upd (fun _ => 0) 0 (nI (1 + (bw (x >>> (2 &&& 31)) 9)))) 1 (-1)) 2 0) 3 0)))] ++ ts) ++ gG a cI cZ Q T nb nq nw nr day nbt nqt nwt dayt co ca bo) ++ sPl nb nq nr nw ad (sEn cI (Q 1) (Q 2) (Q 3) (Q 4) (Q 5) (Q 6) (Q 7) (Q 8) (Q 9) (Q 11) (Q 12) (Q 13) ca sv rl))) _ := hP
                have hD : va_D A (sW si fa ob ra_20 oc ow cI cW cO (Q 0) nb (nq + 1) nr (sRf ad 0 nb) (moF (sRf ad 1 nq) nq q_18) (sRf ad 2 nr) (sRf ad 3 nw) (nI nw) (nI day) co ++ ((([(q_18, .inl (cI, 4, .inl (upd (upd (upd (upd (fun _ => 0) 0 (nI (1 + (bw (x >>> (2 &&& 31)) 9)))) 1 (-1)) 2 0) 3 0)))] ++ ts) ++ gG a cI cZ Q T nb nq nw nr day nbt nqt nwt dayt co ca bo) ++ sPl nb nq nr nw ad (sEn cI (Q 1) (Q 2) (Q 3) (Q 4) (Q 5) (Q 6) (Q 7) (Q 8) (Q 9) (Q 11) (Q 12) (Q 13) ca sv rl))) := hD
                obtain ⟨hP, hD⟩ := gPD_key (key := (1, nq)) sK_n1 (sK_p1 _ _ _ _) hP hD
                rw [sU_n1, sRf_mo1] at hP hD
                have hP : va_P D vwCl (sW si fa ob ra_20 oc ow cI cW cO (Q 0) nb (nq + 1) nr (sRf (adU1 ad nq q_18) 0 nb) (sRf (adU1 ad nq q_18) 1 (nq + 1)) (sRf (adU1 ad nq q_18) 2 nr) (sRf (adU1 ad nq q_18) 3 nw) (nI nw) (nI day) co ++ ((ts ++ gG a cI cZ Q T nb nq nw nr day nbt nqt nwt dayt co ca bo) ++ sPl nb (nq + 1) nr nw (adU1 ad nq q_18) (sEn cI (Q 1) (Q 2) (Q 3) (Q 4) (upd (Q 5) nq (nI (1 + (bw (x >>> (2 &&& 31)) 9)))) (upd (Q 6) nq (-1)) (upd (Q 7) nq 0) (upd (Q 8) nq 0) (Q 9) (Q 11) (Q 12) (Q 13) ca sv rl))) _ := hP
                have hD : va_D A (sW si fa ob ra_20 oc ow cI cW cO (Q 0) nb (nq + 1) nr (sRf (adU1 ad nq q_18) 0 nb) (sRf (adU1 ad nq q_18) 1 (nq + 1)) (sRf (adU1 ad nq q_18) 2 nr) (sRf (adU1 ad nq q_18) 3 nw) (nI nw) (nI day) co ++ ((ts ++ gG a cI cZ Q T nb nq nw nr day nbt nqt nwt dayt co ca bo) ++ sPl nb (nq + 1) nr nw (adU1 ad nq q_18) (sEn cI (Q 1) (Q 2) (Q 3) (Q 4) (upd (Q 5) nq (nI (1 + (bw (x >>> (2 &&& 31)) 9)))) (upd (Q 6) nq (-1)) (upd (Q 7) nq 0) (upd (Q 8) nq 0) (Q 9) (Q 11) (Q 12) (Q 13) ca sv rl))) := hD
                refine lv_aload_n hx hb dL_act_274 rfl (lv_at hl 4 rfl) ?_
                refine lv_iconst (v := 1) hx hb dL_act_275 (by decide) ?_
                refine lv_iload_n hx hb dL_act_276 rfl (lv_at hl 6 rfl) ?_
                refine lv_iconst (v := 2) hx hb dL_act_277 (by decide) ?_
                refine lv_ishr hx hb dL_act_278 ?_
                refine lv_bipush (v := 9) hx hb dL_act_279 (by decide) ?_
                refine gw_top (y := nI 9) rfl ?_
                refine va_calli (va_runS (As := [.int (x >>> (2 &&& 31)), .int (nI 9)]) (rest := [.int 1, .ref (a 0)]) ⟨hx, hb, hml, hown, hts⟩ (met_L_below l D cI cZ cW cO (x >>> (2 &&& 31)) 9 (by first | assumption | omega) (by first | assumption | omega)) (va_cwS 2 hts gL_act_L_below rfl rfl rfl (by decide +kernel) ⟨Nat.le_of_ble_eq_true rfl, Nat.le_of_ble_eq_true rfl⟩) (gv_psr hK (wc := []) (fun _ _ h9 => by cases h9)) rfl rfl hl.1 rfl (lv_room (Nat.le_of_ble_eq_true rfl)) dL_act_281 ⟨(by show _ ≤ 2; omega), (by show _ ≤ 12; omega)⟩) hS (fun _ _ z => z.elim) (fun _ z => z.elim) (fun r_21 _ t H1 locs ht hvm hw hB hz1 hk1 hS => ?_)
                have hP := gw_ro hP hk1
                generalize H1 = H at hP hS ⊢
                subst hw
                refine lv_iadd hx hb dL_act_284 ?_
                refine gw_top (y := nI (1 + (bw (x >>> (2 &&& 31)) 9))) (nI_add 1 (bw (x >>> (2 &&& 31)) 9)) ?_
                refine va_calli (va_runV (As := [.int (nI (1 + (bw (x >>> (2 &&& 31)) 9)))]) (rest := []) ⟨hx, hb, hml, hown, hts⟩ (met_W_hire l D cI cZ cW cO a Q T nb nq nw nr day nbt nqt nwt dayt co ca bo (nI (1 + (bw (x >>> (2 &&& 31)) 9))) (gw_in1 (n := 9) (by omega) (by have h9 := bw_lt (v := x >>> (2 &&& 31)) (n := 9) (by decide); omega) (by decide)) (by first | assumption | omega)) (cwV 1 hts gL_act_X5_hire rfl rfl rfl (by decide +kernel) ⟨Nat.le_of_ble_eq_true rfl, Nat.le_of_ble_eq_true rfl⟩) (gv_pvw hK (gP_G hP) (gD_G hD) 5 rfl rfl rfl) rfl rfl hl.1 rfl (lv_room (Nat.le_of_ble_eq_true rfl)) dL_act_285 ⟨(by show _ ≤ 2; omega), (by show _ ≤ 12; omega)⟩) hS (fun q _ h => gA_G hD q h) (gA_G hD) (fun r_22 _ t H1 locs ht hvm hw hB hz1 hk1 hS => ?_)
                have hB : va_P D vwCl (gG a cI cZ (gHire Q nq (nI (1 + (bw (x >>> (2 &&& 31)) 9)))) T nb (nq + 1) nw nr day nbt nqt nwt dayt co ca bo) t.heap := hB
                rw [ht] at hB
                obtain ⟨hP, hD⟩ := gPD_G (G' := gG a cI cZ (gHire Q nq (nI (1 + (bw (x >>> (2 &&& 31)) 9)))) T nb (nq + 1) nw nr day nbt nqt nwt dayt co ca bo) hP hD rfl hk1 hB
                generalize H1 = H at hP hS ⊢
                have hP : va_P D vwCl (sW si fa ob ra_20 oc ow cI cW cO (Q 0) nb (nq + 1) nr (sRf (adU1 ad nq q_18) 0 nb) (sRf (adU1 ad nq q_18) 1 (nq + 1)) (sRf (adU1 ad nq q_18) 2 nr) (sRf (adU1 ad nq q_18) 3 nw) (nI nw) (nI day) co ++ ((ts ++ gG a cI cZ (gHire Q nq (nI (1 + (bw (x >>> (2 &&& 31)) 9)))) T nb (nq + 1) nw nr day nbt nqt nwt dayt co ca bo) ++ sPl nb (nq + 1) nr nw (adU1 ad nq q_18) (sEn cI (Q 1) (Q 2) (Q 3) (Q 4) (upd (Q 5) nq (nI (1 + (bw (x >>> (2 &&& 31)) 9)))) (upd (Q 6) nq (-1)) (upd (Q 7) nq 0) (upd (Q 8) nq 0) (Q 9) (Q 11) (Q 12) (Q 13) ca sv rl))) _ := hP
                have hD : va_D A (sW si fa ob ra_20 oc ow cI cW cO (Q 0) nb (nq + 1) nr (sRf (adU1 ad nq q_18) 0 nb) (sRf (adU1 ad nq q_18) 1 (nq + 1)) (sRf (adU1 ad nq q_18) 2 nr) (sRf (adU1 ad nq q_18) 3 nw) (nI nw) (nI day) co ++ ((ts ++ gG a cI cZ (gHire Q nq (nI (1 + (bw (x >>> (2 &&& 31)) 9)))) T nb (nq + 1) nw nr day nbt nqt nwt dayt co ca bo) ++ sPl nb (nq + 1) nr nw (adU1 ad nq q_18) (sEn cI (Q 1) (Q 2) (Q 3) (Q 4) (upd (Q 5) nq (nI (1 + (bw (x >>> (2 &&& 31)) 9)))) (upd (Q 6) nq (-1)) (upd (Q 7) nq 0) (upd (Q 8) nq 0) (Q 9) (Q 11) (Q 12) (Q 13) ca sv rl))) := hD
                subst hw
                refine lv_iload hx hb dL_act_288 (lv_at hl 2 rfl) ?_
                refine lv_icmp_ne (tgt := 297) hx hb dL_act_290 (by decide) (fun c_23 => (by first | exact absurd c_23 (rfl : nI nq = nI nq) | exact absurd (rfl : nI nq = nI nq) c_23)) (fun c_23 => ?_)
                refine lv_iconst (v := 1) hx hb dL_act_293 (by decide) ?_
                refine lv_goto (tgt := 298) hx hb dL_act_294 (by decide) ?_
                have h7 : upd (Q 7) nq 0 = Q 7 := upd_same (hX.e7 nq (Nat.le_refl _)).1
                have h8 : upd (Q 8) nq 0 = Q 8 := upd_same (hX.e7 nq (Nat.le_refl _)).2
                rw [h7, h8] at hP hD
                refine W.widen (k := 2) (n := 12) (by omega) (by omega) ?_
                exact W.zret (v := 1) hx hb hr rfl (fun t ht hW => ⟨⟨_, (), rfl, rfl, (⟨ob, ra_20, oc, adU1 ad nq q_18, gHire Q nq (nI (1 + bw (x >>> (2 &&& 31)) 9)), nb, nq + 1, nr, co, ca, bo, sv, rl, gw_hh ht hP, hD, hI.hire hq6 (gw_in1 (n := 9) (by omega) (by have h9 := bw_lt (v := x >>> (2 &&& 31)) (n := 9) (by decide); omega) (by decide)), hX.hire, aChk_same rfl rfl rfl, Nat.le_refl _⟩)⟩, hS.F ht⟩) hS.2.2 dL_act_298
              · skip
                refine lv_iconst (v := 1) hx hb dL_act_233 (by decide) ?_
                refine W.widen (k := 2) (n := 12) (by omega) (by omega) ?_
                exact W.zret (v := 1) hx hb hr rfl (fun t ht hW => ⟨⟨_, (), rfl, rfl, (⟨ob, op, oc, ad, Q, nb, nq, nr, co, ca, bo, sv, rl, gw_hh ht hP, hD, hI, hX, aChk_same rfl rfl rfl, Nat.le_refl _⟩)⟩, hS.F ht⟩) hS.2.2 dL_act_234
            · skip
              refine lv_tableIn (off := 225) (tgt := 299) hx hb dL_act_74 (by decide) (by decide) rfl (by decide) ?_
              refine lv_iload hx hb dL_act_299 (lv_at hl 1 rfl) ?_
              refine lv_iconst (v := 3) hx hb dL_act_301 (by decide) ?_
              refine lv_icmp_ne (tgt := 307) hx hb dL_act_302 (by decide) (fun r3 => ?_) (fun r3 => ?_)
              · skip
                have hr3 : nr < 3 := by have h9 : nr ≠ 3 := (fun e9 => r3 (by rw [e9]; rfl)); omega
                refine lv_aload_n hx hb dL_act_307 rfl (lv_at hl 5 rfl) ?_
                refine lv_aload_n hx hb dL_act_308 rfl (lv_at hl 5 rfl) ?_
                refine va_get (D := D) (ci := 6) (v := .ref oc) (C := RX6) (T := TX6) (N := 8) hx hb hts wc_L_act_X6 hown hK hP 0 rfl rfl 3 (by decide) (hts _ wd_L_act_3) (fun _ h9 => h9) rfl dL_act_309 ?_
                refine lv_iconst (v := 2) hx hb dL_act_312 (by decide) ?_
                refine gw_newI hx hb (hts _ wd_L_act_6) hK 0 rfl hP hD hS hA (n := 2) (N' := 2) (by decide) (by decide) (by decide) (Nat.le_of_ble_eq_true rfl) (Nat.le_of_ble_eq_true rfl) dL_act_313 (fun q_25 H hP hD hS => ?_)
                obtain ⟨hP, hD⟩ := gPD_new hP hD
                have hP : va_P D vwCl (sW si fa ob op oc ow cI cW cO (Q 0) nb nq nr (sRf ad 0 nb) (sRf ad 1 nq) (sRf ad 2 nr) (sRf ad 3 nw) (nI nw) (nI day) co ++ ((([(q_25, .inl (cI, 2, .inl (fun _ => 0)))] ++ ts) ++ gG a cI cZ Q T nb nq nw nr day nbt nqt nwt dayt co ca bo) ++ sPl nb nq nr nw ad (sEn cI (Q 1) (Q 2) (Q 3) (Q 4) (Q 5) (Q 6) (Q 7) (Q 8) (Q 9) (Q 11) (Q 12) (Q 13) ca sv rl))) _ := hP
                have hD : va_D A (sW si fa ob op oc ow cI cW cO (Q 0) nb nq nr (sRf ad 0 nb) (sRf ad 1 nq) (sRf ad 2 nr) (sRf ad 3 nw) (nI nw) (nI day) co ++ ((([(q_25, .inl (cI, 2, .inl (fun _ => 0)))] ++ ts) ++ gG a cI cZ Q T nb nq nw nr day nbt nqt nwt dayt co ca bo) ++ sPl nb nq nr nw ad (sEn cI (Q 1) (Q 2) (Q 3) (Q 4) (Q 5) (Q 6) (Q 7) (Q 8) (Q 9) (Q 11) (Q 12) (Q 13) ca sv rl))) := hD
                refine W.widen (k := 1) (n := 2) (by omega) (by omega) ?_
                refine lv_dup hx hb dL_act_315 rfl ?_
                refine lv_iconst (v := 0) hx hb dL_act_316 (by decide) ?_
                refine lv_bipush (v := 20) hx hb dL_act_317 (by decide) ?_
                refine lv_iload_n hx hb dL_act_319 rfl (lv_at hl 6 rfl) ?_
                refine lv_iconst (v := 1) hx hb dL_act_320 (by decide) ?_
                refine lv_ishr hx hb dL_act_321 ?_
                refine lv_sipush (v := 381) hx hb dL_act_322 (by decide) ?_
                refine gw_top (y := nI 381) rfl ?_
                refine va_calli (va_runS (As := [.int (x >>> (1 &&& 31)), .int (nI 381)]) (rest := [.int 20, .int 0, .ref q_25, .ref q_25, .ref oc, .ref si]) ⟨hx, hb, hml, hown, hts⟩ (met_L_below l D cI cZ cW cO (x >>> (1 &&& 31)) 381 (by first | assumption | omega) (by first | assumption | omega)) (va_cwS 2 hts gL_act_L_below rfl rfl rfl (by decide +kernel) ⟨Nat.le_of_ble_eq_true rfl, Nat.le_of_ble_eq_true rfl⟩) (gv_psr hK (wc := []) (fun _ _ h9 => by cases h9)) rfl rfl hl.1 rfl (lv_room (Nat.le_of_ble_eq_true rfl)) dL_act_325 ⟨(by show _ ≤ 2; omega), (by show _ ≤ 12; omega)⟩) hS (fun _ _ z => z.elim) (fun _ z => z.elim) (fun r_26 _ t H1 locs ht hvm hw hB hz1 hk1 hS => ?_)
                have hP := gw_ro hP hk1
                generalize H1 = H at hP hS ⊢
                subst hw
                refine lv_iadd hx hb dL_act_328 ?_
                refine gw_top (y := nI (20 + (bw (x >>> (1 &&& 31)) 381))) (nI_add 20 (bw (x >>> (1 &&& 31)) 381)) ?_
                refine gw_top2 (y := nI 0) rfl ?_
                refine gw_iast hx hb hK hP hD hS 6 0 (k := 0) rfl rfl (by first | decide | omega) (by decide) dL_act_329 (fun H locs hP hD hS => ?_)
                have hP : va_P D vwCl (sW si fa ob op oc ow cI cW cO (Q 0) nb nq nr (sRf ad 0 nb) (sRf ad 1 nq) (sRf ad 2 nr) (sRf ad 3 nw) (nI nw) (nI day) co ++ ((([(q_25, .inl (cI, 2, .inl (upd (fun _ => 0) 0 (nI (20 + (bw (x >>> (1 &&& 31)) 381))))))] ++ ts) ++ gG a cI cZ Q T nb nq nw nr day nbt nqt nwt dayt co ca bo) ++ sPl nb nq nr nw ad (sEn cI (Q 1) (Q 2) (Q 3) (Q 4) (Q 5) (Q 6) (Q 7) (Q 8) (Q 9) (Q 11) (Q 12) (Q 13) ca sv rl))) _ := hP
                have hD : va_D A (sW si fa ob op oc ow cI cW cO (Q 0) nb nq nr (sRf ad 0 nb) (sRf ad 1 nq) (sRf ad 2 nr) (sRf ad 3 nw) (nI nw) (nI day) co ++ ((([(q_25, .inl (cI, 2, .inl (upd (fun _ => 0) 0 (nI (20 + (bw (x >>> (1 &&& 31)) 381))))))] ++ ts) ++ gG a cI cZ Q T nb nq nw nr day nbt nqt nwt dayt co ca bo) ++ sPl nb nq nr nw ad (sEn cI (Q 1) (Q 2) (Q 3) (Q 4) (Q 5) (Q 6) (Q 7) (Q 8) (Q 9) (Q 11) (Q 12) (Q 13) ca sv rl))) := hD
                refine lv_dup hx hb dL_act_330 rfl ?_
                refine lv_iconst (v := 1) hx hb dL_act_331 (by decide) ?_
                refine lv_iconst (v := (-1)) hx hb dL_act_332 (by decide) ?_
                refine gw_top2 (y := nI 1) rfl ?_
                refine gw_iast hx hb hK hP hD hS 6 0 (k := 1) rfl rfl (by first | decide | omega) (by decide) dL_act_333 (fun H locs hP hD hS => ?_)
                have hP : va_P D vwCl (sW si fa ob op oc ow cI cW cO (Q 0) nb nq nr (sRf ad 0 nb) (sRf ad 1 nq) (sRf ad 2 nr) (sRf ad 3 nw) (nI nw) (nI day) co ++ ((([(q_25, .inl (cI, 2, .inl (upd (upd (fun _ => 0) 0 (nI (20 + (bw (x >>> (1 &&& 31)) 381)))) 1 (-1))))] ++ ts) ++ gG a cI cZ Q T nb nq nw nr day nbt nqt nwt dayt co ca bo) ++ sPl nb nq nr nw ad (sEn cI (Q 1) (Q 2) (Q 3) (Q 4) (Q 5) (Q 6) (Q 7) (Q 8) (Q 9) (Q 11) (Q 12) (Q 13) ca sv rl))) _ := hP
                have hD : va_D A (sW si fa ob op oc ow cI cW cO (Q 0) nb nq nr (sRf ad 0 nb) (sRf ad 1 nq) (sRf ad 2 nr) (sRf ad 3 nw) (nI nw) (nI day) co ++ ((([(q_25, .inl (cI, 2, .inl (upd (upd (fun _ => 0) 0 (nI (20 + (bw (x >>> (1 &&& 31)) 381)))) 1 (-1))))] ++ ts) ++ gG a cI cZ Q T nb nq nw nr day nbt nqt nwt dayt co ca bo) ++ sPl nb nq nr nw ad (sEn cI (Q 1) (Q 2) (Q 3) (Q 4) (Q 5) (Q 6) (Q 7) (Q 8) (Q 9) (Q 11) (Q 12) (Q 13) ca sv rl))) := hD
                have hFc := gv_free hD hS hA
                refine va_callr (va_runS (As := [.ref oc, .ref q_25]) (rest := [.ref si]) ⟨hx, hb, hml, hown, hts⟩ (met_X6_more l D cI cZ cW cO oc q_25 nr 2 4 6 (sRf ad 2 nr) (upd (upd (fun _ => 0) 0 (nI (20 + (bw (x >>> (1 &&& 31)) 381)))) 1 (-1)) (sW si fa ob op oc ow cI cW cO (Q 0) nb nq nr (sRf ad 0 nb) (sRf ad 1 nq) (sRf ad 2 nr) (sRf ad 3 nw) (nI nw) (nI day) co ++ ((([(q_25, .inl (cI, 2, .inl (upd (upd (fun _ => 0) 0 (nI (20 + (bw (x >>> (1 &&& 31)) 381)))) 1 (-1))))] ++ ts) ++ gG a cI cZ Q T nb nq nw nr day nbt nqt nwt dayt co ca bo) ++ sPl nb nq nr nw ad (sEn cI (Q 1) (Q 2) (Q 3) (Q 4) (Q 5) (Q 6) (Q 7) (Q 8) (Q 9) (Q 11) (Q 12) (Q 13) ca sv rl))) (by omega) rfl rfl (fun k9 hk9 => by obtain ⟨i9, hi9, -⟩ := sAt2 hP hk9; exact ⟨_, i9, _, sRf_at hk9, hi9⟩) H.size) (va_cwS 2 hts gL_act_X6_more rfl rfl rfl (by decide +kernel) ⟨Nat.le_of_ble_eq_true rfl, Nat.le_of_ble_eq_true rfl⟩) (gv_pss hK hR hP hD) rfl rfl hl.1 rfl (lv_room (Nat.le_of_ble_eq_true rfl)) dL_act_334 ⟨(by show _ ≤ 2; omega), (by show _ ≤ 12; omega)⟩) hS (fun q _ h => hFc q h) hFc (fun u_ ra_27 t H1 locs ht hvm hw hB hz1 hk1 hS => ?_)
                have hP1 : va_P D vwCl ((sW si fa ob op oc ow cI cW cO (Q 0) nb nq nr (sRf ad 0 nb) (sRf ad 1 nq) (sRf ad 2 nr) (sRf ad 3 nw) (nI nw) (nI day) co ++ ((([(q_25, .inl (cI, 2, .inl (upd (upd (fun _ => 0) 0 (nI (20 + (bw (x >>> (1 &&& 31)) 381)))) 1 (-1))))] ++ ts) ++ gG a cI cZ Q T nb nq nw nr day nbt nqt nwt dayt co ca bo) ++ sPl nb nq nr nw ad (sEn cI (Q 1) (Q 2) (Q 3) (Q 4) (Q 5) (Q 6) (Q 7) (Q 8) (Q 9) (Q 11) (Q 12) (Q 13) ca sv rl))) ++ [(ra_27, .inl (cO, nr + 1, .inr (.inr (.inr (.inr (moF (sRf ad 2 nr) nr q_25))))))]) t.heap := hB.1
                have hD1 : va_D A ((sW si fa ob op oc ow cI cW cO (Q 0) nb nq nr (sRf ad 0 nb) (sRf ad 1 nq) (sRf ad 2 nr) (sRf ad 3 nw) (nI nw) (nI day) co ++ ((([(q_25, .inl (cI, 2, .inl (upd (upd (fun _ => 0) 0 (nI (20 + (bw (x >>> (1 &&& 31)) 381)))) 1 (-1))))] ++ ts) ++ gG a cI cZ Q T nb nq nw nr day nbt nqt nwt dayt co ca bo) ++ sPl nb nq nr nw ad (sEn cI (Q 1) (Q 2) (Q 3) (Q 4) (Q 5) (Q 6) (Q 7) (Q 8) (Q 9) (Q 11) (Q 12) (Q 13) ca sv rl))) ++ [(ra_27, .inl (cO, nr + 1, .inr (.inr (.inr (.inr (moF (sRf ad 2 nr) nr q_25))))))]) := hB.2.weaken (fun _ _ _ h9 => hFc _ h9)
                rw [ht] at hP1
                obtain ⟨hP, hD⟩ := gPD_new hP1 hD1
                generalize H1 = H at hP hS ⊢
                have hP : va_P D vwCl (sW si fa ob op oc ow cI cW cO (Q 0) nb nq nr (sRf ad 0 nb) (sRf ad 1 nq) (sRf ad 2 nr) (sRf ad 3 nw) (nI nw) (nI day) co ++ ((([(ra_27, .inl (cO, nr + 1, .inr (.inr (.inr (.inr (moF (sRf ad 2 nr) nr q_25)))))), (q_25, .inl (cI, 2, .inl (upd (upd (fun _ => 0) 0 (nI (20 + (bw (x >>> (1 &&& 31)) 381)))) 1 (-1))))] ++ ts) ++ gG a cI cZ Q T nb nq nw nr day nbt nqt nwt dayt co ca bo) ++ sPl nb nq nr nw ad (sEn cI (Q 1) (Q 2) (Q 3) (Q 4) (Q 5) (Q 6) (Q 7) (Q 8) (Q 9) (Q 11) (Q 12) (Q 13) ca sv rl))) _ := hP
                have hD : va_D A (sW si fa ob op oc ow cI cW cO (Q 0) nb nq nr (sRf ad 0 nb) (sRf ad 1 nq) (sRf ad 2 nr) (sRf ad 3 nw) (nI nw) (nI day) co ++ ((([(ra_27, .inl (cO, nr + 1, .inr (.inr (.inr (.inr (moF (sRf ad 2 nr) nr q_25)))))), (q_25, .inl (cI, 2, .inl (upd (upd (fun _ => 0) 0 (nI (20 + (bw (x >>> (1 &&& 31)) 381)))) 1 (-1))))] ++ ts) ++ gG a cI cZ Q T nb nq nw nr day nbt nqt nwt dayt co ca bo) ++ sPl nb nq nr nw ad (sEn cI (Q 1) (Q 2) (Q 3) (Q 4) (Q 5) (Q 6) (Q 7) (Q 8) (Q 9) (Q 11) (Q 12) (Q 13) ca sv rl))) := hD
                refine W.widen (k := 2) (n := 9) (by omega) (by omega) ?_
                refine va_put (D := D) (ci := 6) (v := .ref ra_27) (ty := .array (.array .int)) (C := RX6) (T := TX6) (N := 8) hx hb hts wc_L_act_X6 tyX6 tyX6_ok nmX6 hown hK hP hD hS 0 rfl rfl 3 (by decide) (hts _ wd_L_act_3) (fun _ h9 => h9) rfl (by decide +kernel) rfl rfl (Nat.le_of_ble_eq_true rfl) dL_act_337 (fun H locs hP hD hS => ?_)
                obtain ⟨hP, hD⟩ := gPD_swap (A := [(si, .inr (6, [.ref fa, .ref ob, .ref op, .ref ra_27, .ref ow, .int (nI nw), .int (nI day), .int co])), (fa, .inl (cI, 9, .inl (Q 0))), (ob, .inl (cO, nb, .inr (.inr (.inr (.inr (sRf ad 0 nb)))))), (op, .inl (cO, nq, .inr (.inr (.inr (.inr (sRf ad 1 nq))))))]) (B := [(ow, .inl (cW, 60, .inr (.inr (.inr (.inr (sRf ad 3 nw))))))]) (o := (oc, .inl (cO, nr, .inr (.inr (.inr (.inr (sRf ad 2 nr))))))) (n := (ra_27, .inl (cO, nr + 1, .inr (.inr (.inr (.inr (moF (sRf ad 2 nr) nr q_25))))))) (R := (([(q_25, .inl (cI, 2, .inl (upd (upd (fun _ => 0) 0 (nI (20 + (bw (x >>> (1 &&& 31)) 381)))) 1 (-1))))] ++ ts) ++ gG a cI cZ Q T nb nq nw nr day nbt nqt nwt dayt co ca bo)) hP hD
                have hP : va_P D vwCl (sW si fa ob op ra_27 ow cI cW cO (Q 0) nb nq (nr + 1) (sRf ad 0 nb) (sRf ad 1 nq) (moF (sRf ad 2 nr) nr q_25) (sRf ad 3 nw) (nI nw) (nI day) co ++ ((([(q_25, .inl (cI, 2, .inl (upd (upd (fun _ => 0) 0 (nI (20 + (bw (x >>> (1 &&& 31)) 381)))) 1 (-1))))] ++ ts) ++ gG a cI cZ Q T nb nq nw nr day nbt nqt nwt dayt co ca bo) ++ sPl nb nq nr nw ad (sEn cI (Q 1) (Q 2) (Q 3) (Q 4) (Q 5) (Q 6) (Q 7) (Q 8) (Q 9) (Q 11) (Q 12) (Q 13) ca sv rl))) _ := hP
                have hD : va_D A (sW si fa ob op ra_27 ow cI cW cO (Q 0) nb nq (nr + 1) (sRf ad 0 nb) (sRf ad 1 nq) (moF (sRf ad 2 nr) nr q_25) (sRf ad 3 nw) (nI nw) (nI day) co ++ ((([(q_25, .inl (cI, 2, .inl (upd (upd (fun _ => 0) 0 (nI (20 + (bw (x >>> (1 &&& 31)) 381)))) 1 (-1))))] ++ ts) ++ gG a cI cZ Q T nb nq nw nr day nbt nqt nwt dayt co ca bo) ++ sPl nb nq nr nw ad (sEn cI (Q 1) (Q 2) (Q 3) (Q 4) (Q 5) (Q 6) (Q 7) (Q 8) (Q 9) (Q 11) (Q 12) (Q 13) ca sv rl))) := hD
                obtain ⟨hP, hD⟩ := gPD_key (key := (2, nr)) sK_n2 (sK_p2 _ _ _ _) hP hD
                rw [sU_n2, sRf_mo2] at hP hD
                have hP : va_P D vwCl (sW si fa ob op ra_27 ow cI cW cO (Q 0) nb nq (nr + 1) (sRf (adU2 ad nr q_25) 0 nb) (sRf (adU2 ad nr q_25) 1 nq) (sRf (adU2 ad nr q_25) 2 (nr + 1)) (sRf (adU2 ad nr q_25) 3 nw) (nI nw) (nI day) co ++ ((ts ++ gG a cI cZ Q T nb nq nw nr day nbt nqt nwt dayt co ca bo) ++ sPl nb nq (nr + 1) nw (adU2 ad nr q_25) (sEn cI (Q 1) (Q 2) (Q 3) (Q 4) (Q 5) (Q 6) (Q 7) (Q 8) (Q 9) (Q 11) (Q 12) (Q 13) (upd ca nr (nI (20 + (bw (x >>> (1 &&& 31)) 381)))) (upd sv nr (-1)) rl))) _ := hP
                have hD : va_D A (sW si fa ob op ra_27 ow cI cW cO (Q 0) nb nq (nr + 1) (sRf (adU2 ad nr q_25) 0 nb) (sRf (adU2 ad nr q_25) 1 nq) (sRf (adU2 ad nr q_25) 2 (nr + 1)) (sRf (adU2 ad nr q_25) 3 nw) (nI nw) (nI day) co ++ ((ts ++ gG a cI cZ Q T nb nq nw nr day nbt nqt nwt dayt co ca bo) ++ sPl nb nq (nr + 1) nw (adU2 ad nr q_25) (sEn cI (Q 1) (Q 2) (Q 3) (Q 4) (Q 5) (Q 6) (Q 7) (Q 8) (Q 9) (Q 11) (Q 12) (Q 13) (upd ca nr (nI (20 + (bw (x >>> (1 &&& 31)) 381)))) (upd sv nr (-1)) rl))) := hD
                refine lv_aload_n hx hb dL_act_340 rfl (lv_at hl 4 rfl) ?_
                refine lv_bipush (v := 20) hx hb dL_act_341 (by decide) ?_
                refine lv_iload_n hx hb dL_act_343 rfl (lv_at hl 6 rfl) ?_
                refine lv_iconst (v := 1) hx hb dL_act_344 (by decide) ?_
                refine lv_ishr hx hb dL_act_345 ?_
                refine lv_sipush (v := 381) hx hb dL_act_346 (by decide) ?_
                refine gw_top (y := nI 381) rfl ?_
                refine va_calli (va_runS (As := [.int (x >>> (1 &&& 31)), .int (nI 381)]) (rest := [.int 20, .ref (a 0)]) ⟨hx, hb, hml, hown, hts⟩ (met_L_below l D cI cZ cW cO (x >>> (1 &&& 31)) 381 (by first | assumption | omega) (by first | assumption | omega)) (va_cwS 2 hts gL_act_L_below rfl rfl rfl (by decide +kernel) ⟨Nat.le_of_ble_eq_true rfl, Nat.le_of_ble_eq_true rfl⟩) (gv_psr hK (wc := []) (fun _ _ h9 => by cases h9)) rfl rfl hl.1 rfl (lv_room (Nat.le_of_ble_eq_true rfl)) dL_act_349 ⟨(by show _ ≤ 2; omega), (by show _ ≤ 12; omega)⟩) hS (fun _ _ z => z.elim) (fun _ z => z.elim) (fun r_28 _ t H1 locs ht hvm hw hB hz1 hk1 hS => ?_)
                have hP := gw_ro hP hk1
                generalize H1 = H at hP hS ⊢
                subst hw
                refine lv_iadd hx hb dL_act_352 ?_
                refine gw_top (y := nI (20 + (bw (x >>> (1 &&& 31)) 381))) (nI_add 20 (bw (x >>> (1 &&& 31)) 381)) ?_
                refine va_calli (va_runV (As := [.int (nI (20 + (bw (x >>> (1 &&& 31)) 381)))]) (rest := []) ⟨hx, hb, hml, hown, hts⟩ (met_W_build l D cI cZ cW cO a Q T nb nq nw nr day nbt nqt nwt dayt co ca bo (nI (20 + (bw (x >>> (1 &&& 31)) 381))) ⟨nI_le (a := 20) (b := 20 + bw (x >>> (1 &&& 31)) 381) (by omega) (by have h9 := bw_lt (v := x >>> (1 &&& 31)) (n := 381) (by decide); omega), nI_le (a := 20 + bw (x >>> (1 &&& 31)) 381) (b := 400) (by have h9 := bw_lt (v := x >>> (1 &&& 31)) (n := 381) (by decide); omega) (by decide)⟩ (by first | assumption | omega)) (cwV 1 hts gL_act_X5_build rfl rfl rfl (by decide +kernel) ⟨Nat.le_of_ble_eq_true rfl, Nat.le_of_ble_eq_true rfl⟩) (gv_pvw hK (gP_G hP) (gD_G hD) 5 rfl rfl rfl) rfl rfl hl.1 rfl (lv_room (Nat.le_of_ble_eq_true rfl)) dL_act_353 ⟨(by show _ ≤ 2; omega), (by show _ ≤ 12; omega)⟩) hS (fun q _ h => gA_G hD q h) (gA_G hD) (fun r_29 _ t H1 locs ht hvm hw hB hz1 hk1 hS => ?_)
                have hB : va_P D vwCl (gG a cI cZ Q T nb nq nw (nr + 1) day nbt nqt nwt dayt co (upd ca nr (nI (20 + (bw (x >>> (1 &&& 31)) 381)))) bo) t.heap := hB
                rw [ht] at hB
                obtain ⟨hP, hD⟩ := gPD_G (G' := gG a cI cZ Q T nb nq nw (nr + 1) day nbt nqt nwt dayt co (upd ca nr (nI (20 + (bw (x >>> (1 &&& 31)) 381)))) bo) hP hD rfl hk1 hB
                generalize H1 = H at hP hS ⊢
                have hP : va_P D vwCl (sW si fa ob op ra_27 ow cI cW cO (Q 0) nb nq (nr + 1) (sRf (adU2 ad nr q_25) 0 nb) (sRf (adU2 ad nr q_25) 1 nq) (sRf (adU2 ad nr q_25) 2 (nr + 1)) (sRf (adU2 ad nr q_25) 3 nw) (nI nw) (nI day) co ++ ((ts ++ gG a cI cZ Q T nb nq nw (nr + 1) day nbt nqt nwt dayt co (upd ca nr (nI (20 + (bw (x >>> (1 &&& 31)) 381)))) bo) ++ sPl nb nq (nr + 1) nw (adU2 ad nr q_25) (sEn cI (Q 1) (Q 2) (Q 3) (Q 4) (Q 5) (Q 6) (Q 7) (Q 8) (Q 9) (Q 11) (Q 12) (Q 13) (upd ca nr (nI (20 + (bw (x >>> (1 &&& 31)) 381)))) (upd sv nr (-1)) rl))) _ := hP
                have hD : va_D A (sW si fa ob op ra_27 ow cI cW cO (Q 0) nb nq (nr + 1) (sRf (adU2 ad nr q_25) 0 nb) (sRf (adU2 ad nr q_25) 1 nq) (sRf (adU2 ad nr q_25) 2 (nr + 1)) (sRf (adU2 ad nr q_25) 3 nw) (nI nw) (nI day) co ++ ((ts ++ gG a cI cZ Q T nb nq nw (nr + 1) day nbt nqt nwt dayt co (upd ca nr (nI (20 + (bw (x >>> (1 &&& 31)) 381)))) bo) ++ sPl nb nq (nr + 1) nw (adU2 ad nr q_25) (sEn cI (Q 1) (Q 2) (Q 3) (Q 4) (Q 5) (Q 6) (Q 7) (Q 8) (Q 9) (Q 11) (Q 12) (Q 13) (upd ca nr (nI (20 + (bw (x >>> (1 &&& 31)) 381)))) (upd sv nr (-1)) rl))) := hD
                subst hw
                refine lv_iload hx hb dL_act_356 (lv_at hl 1 rfl) ?_
                refine lv_icmp_ne (tgt := 365) hx hb dL_act_358 (by decide) (fun c_30 => (by first | exact absurd c_30 (rfl : nI nr = nI nr) | exact absurd (rfl : nI nr = nI nr) c_30)) (fun c_30 => ?_)
                refine lv_iconst (v := 1) hx hb dL_act_361 (by decide) ?_
                refine lv_goto (tgt := 366) hx hb dL_act_362 (by decide) ?_
                refine W.widen (k := 2) (n := 12) (by omega) (by omega) ?_
                exact W.zret (v := 1) hx hb hr rfl (fun t ht hW => ⟨⟨_, (), rfl, rfl, (⟨ob, op, ra_27, adU2 ad nr q_25, Q, nb, nq, nr + 1, co, upd ca nr (nI (20 + bw (x >>> (1 &&& 31)) 381)), bo, upd sv nr (-1), rl, gw_hh ht hP, hD, hI.build hr3, hX.build hr3 ⟨nI_le (a := 20) (b := 20 + bw (x >>> (1 &&& 31)) 381) (by omega) (by have h9 := bw_lt (v := x >>> (1 &&& 31)) (n := 381) (by decide); omega), nI_le (a := 20 + bw (x >>> (1 &&& 31)) 381) (b := 400) (by have h9 := bw_lt (v := x >>> (1 &&& 31)) (n := 381) (by decide); omega) (by decide)⟩, aChk_same rfl rfl rfl, Nat.le_succ _⟩)⟩, hS.F ht⟩) hS.2.2 dL_act_366
              · skip
                refine lv_iconst (v := 1) hx hb dL_act_305 (by decide) ?_
                refine W.widen (k := 2) (n := 12) (by omega) (by omega) ?_
                exact W.zret (v := 1) hx hb hr rfl (fun t ht hW => ⟨⟨_, (), rfl, rfl, (⟨ob, op, oc, ad, Q, nb, nq, nr, co, ca, bo, sv, rl, gw_hh ht hP, hD, hI, hX, aChk_same rfl rfl rfl, Nat.le_refl _⟩)⟩, hS.F ht⟩) hS.2.2 dL_act_306
            · skip
              refine lv_tableIn (off := 293) (tgt := 367) hx hb dL_act_74 (by decide) (by decide) rfl (by decide) ?_
              have hl : lv_has ls 16 [(6, .int (nI rr)), (5, .int (nI nr)), (4, .int (nI nq)), (3, .int (nI nb)), (0, .ref (a 0)), (1, .ref si), (2, .int x)] := lv_sub hl [0, 1, 2, 3, 4, 5, 6] rfl
              refine lv_iload_n hx hb dL_act_367 rfl (lv_at hl 6 rfl) ?_
              refine lv_bipush (v := 9) hx hb dL_act_368 (by decide) ?_
              refine gw_top (y := nI 9) rfl ?_
              refine va_calli (va_runS (As := [.int x, .int (nI 9)]) (rest := []) ⟨hx, hb, hml, hown, hts⟩ (met_L_below l D cI cZ cW cO x 9 (by first | assumption | omega) (by first | assumption | omega)) (va_cwS 2 hts gL_act_L_below rfl rfl rfl (by decide +kernel) ⟨Nat.le_of_ble_eq_true rfl, Nat.le_of_ble_eq_true rfl⟩) (gv_psr hK (wc := []) (fun _ _ h9 => by cases h9)) rfl rfl hl.1 rfl (lv_room (Nat.le_of_ble_eq_true rfl)) dL_act_370 ⟨(by show _ ≤ 2; omega), (by show _ ≤ 12; omega)⟩) hS (fun _ _ z => z.elim) (fun _ z => z.elim) (fun r_31 _ t H1 locs ht hvm hw hB hz1 hk1 hS => ?_)
              have hP := gw_ro hP hk1
              generalize H1 = H at hP hS ⊢
              subst hw
              refine lv_istore (lv' := [(8, .int (nI (bw x 9))), (6, .int (nI rr)), (5, .int (nI nr)), (4, .int (nI nq)), (3, .int (nI nb)), (0, .ref (a 0)), (1, .ref si), (2, .int x)]) hx hb dL_act_373 hl (by decide) rfl (fun ls hl => ?_)
              refine lv_aload_n hx hb dL_act_375 rfl (lv_at hl 6 rfl) ?_
              refine va_get (D := D) (ci := 6) (v := .ref fa) (C := RX6) (T := TX6) (N := 8) hx hb hts wc_L_act_X6 hown hK hP 0 rfl rfl 0 (by decide) (hts _ wd_L_act_7) (fun _ h9 => h9) rfl dL_act_376 ?_
              refine lv_iload hx hb dL_act_379 (lv_at hl 0 rfl) ?_
              refine gw_iald hx hb hK hP 1 0 (k := bw x 9) rfl rfl (bw_lt (by decide)) (by decide) dL_act_381 ?_
              refine lv_istore (lv' := [(9, .int (Q 0 (bw x 9))), (8, .int (nI (bw x 9))), (6, .int (nI rr)), (5, .int (nI nr)), (4, .int (nI nq)), (3, .int (nI nb)), (0, .ref (a 0)), (1, .ref si), (2, .int x)]) hx hb dL_act_382 hl (by decide) rfl (fun ls hl => ?_)
              refine lv_aload_n hx hb dL_act_384 rfl (lv_at hl 7 rfl) ?_
              refine va_get (D := D) (ci := 6) (v := .ref fa) (C := RX6) (T := TX6) (N := 8) hx hb hts wc_L_act_X6 hown hK hP 0 rfl rfl 0 (by decide) (hts _ wd_L_act_7) (fun _ h9 => h9) rfl dL_act_385 ?_
              refine lv_iload hx hb dL_act_388 (lv_at hl 1 rfl) ?_
              refine lv_iload_n hx hb dL_act_390 rfl (lv_at hl 8 rfl) ?_
              refine lv_iconst (v := 3) hx hb dL_act_391 (by decide) ?_
              refine lv_ishr hx hb dL_act_392 ?_
              refine lv_bipush (v := 10) hx hb dL_act_393 (by decide) ?_
              refine gw_top (y := nI 10) rfl ?_
              refine va_calli (va_runS (As := [.int (x >>> (3 &&& 31)), .int (nI 10)]) (rest := [.int (nI (bw x 9)), .ref fa]) ⟨hx, hb, hml, hown, hts⟩ (met_L_below l D cI cZ cW cO (x >>> (3 &&& 31)) 10 (by first | assumption | omega) (by first | assumption | omega)) (va_cwS 2 hts gL_act_L_below rfl rfl rfl (by decide +kernel) ⟨Nat.le_of_ble_eq_true rfl, Nat.le_of_ble_eq_true rfl⟩) (gv_psr hK (wc := []) (fun _ _ h9 => by cases h9)) rfl rfl hl.1 rfl (lv_room (Nat.le_of_ble_eq_true rfl)) dL_act_395 ⟨(by show _ ≤ 2; omega), (by show _ ≤ 12; omega)⟩) hS (fun _ _ z => z.elim) (fun _ z => z.elim) (fun r_32 _ t H1 locs ht hvm hw hB hz1 hk1 hS => ?_)
              have hP := gw_ro hP hk1
              generalize H1 = H at hP hS ⊢
              subst hw
              refine gw_iast hx hb hK hP hD hS 1 0 (k := bw x 9) rfl rfl (bw_lt (by decide)) (by decide) dL_act_398 (fun H locs hP hD hS => ?_)
              have hP : va_P D vwCl (sW si fa ob op oc ow cI cW cO (upd (Q 0) (bw x 9) (nI (bw (x >>> (3 &&& 31)) 10))) nb nq nr (sRf ad 0 nb) (sRf ad 1 nq) (sRf ad 2 nr) (sRf ad 3 nw) (nI nw) (nI day) co ++ ((ts ++ gG a cI cZ Q T nb nq nw nr day nbt nqt nwt dayt co ca bo) ++ sPl nb nq nr nw ad (sEn cI (Q 1) (Q 2) (Q 3) (Q 4) (Q 5) (Q 6) (Q 7) (Q 8) (Q 9) (Q 11) (Q 12) (Q 13) ca sv rl))) _ := hP
              have hD : va_D A (sW si fa ob op oc ow cI cW cO (upd (Q 0) (bw x 9) (nI (bw (x >>> (3 &&& 31)) 10))) nb nq nr (sRf ad 0 nb) (sRf ad 1 nq) (sRf ad 2 nr) (sRf ad 3 nw) (nI nw) (nI day) co ++ ((ts ++ gG a cI cZ Q T nb nq nw nr day nbt nqt nwt dayt co ca bo) ++ sPl nb nq nr nw ad (sEn cI (Q 1) (Q 2) (Q 3) (Q 4) (Q 5) (Q 6) (Q 7) (Q 8) (Q 9) (Q 11) (Q 12) (Q 13) ca sv rl))) := hD
              refine lv_aload_n hx hb dL_act_399 rfl (lv_at hl 6 rfl) ?_
              refine lv_iload hx hb dL_act_400 (lv_at hl 1 rfl) ?_
              refine lv_aload_n hx hb dL_act_402 rfl (lv_at hl 7 rfl) ?_
              refine va_get (D := D) (ci := 6) (v := .ref fa) (C := RX6) (T := TX6) (N := 8) hx hb hts wc_L_act_X6 hown hK hP 0 rfl rfl 0 (by decide) (hts _ wd_L_act_7) (fun _ h9 => h9) rfl dL_act_403 ?_
              refine lv_iload hx hb dL_act_406 (lv_at hl 1 rfl) ?_
              refine gw_iald hx hb hK hP 1 0 (k := bw x 9) rfl rfl (bw_lt (by decide)) (by decide) dL_act_408 ?_
              refine gw_top (y := nI (bw (x >>> (3 &&& 31)) 10)) upd_at ?_
              refine va_calli (va_runV (As := [.int (nI (bw x 9)), .int (nI (bw (x >>> (3 &&& 31)) 10))]) (rest := []) ⟨hx, hb, hml, hown, hts⟩ (met_W_setFall l D cI cZ cW cO a Q T nb nq nw nr day nbt nqt nwt dayt co ca bo (bw x 9) (nI (bw (x >>> (3 &&& 31)) 10)) (bw_lt (by decide)) (gw_in (n := 9) (by have h9 := bw_lt (v := x >>> (3 &&& 31)) (n := 10) (by decide); omega) (by decide))) (cwV 2 hts gL_act_X5_setFall rfl rfl rfl (by decide +kernel) ⟨Nat.le_of_ble_eq_true rfl, Nat.le_of_ble_eq_true rfl⟩) (gv_pvw hK (gP_G hP) (gD_G hD) 5 rfl rfl rfl) rfl rfl hl.1 rfl (lv_room (Nat.le_of_ble_eq_true rfl)) dL_act_409 ⟨(by show _ ≤ 2; omega), (by show _ ≤ 12; omega)⟩) hS (fun q _ h => gA_G hD q h) (gA_G hD) (fun r_33 _ t H1 locs ht hvm hw hB hz1 hk1 hS => ?_)
              have hB : va_P D vwCl (gG a cI cZ (pk Q 0 (upd (Q 0) (bw x 9) (nI (bw (x >>> (3 &&& 31)) 10)))) T nb nq nw nr day nbt nqt nwt dayt co ca bo) t.heap := hB
              rw [ht] at hB
              obtain ⟨hP, hD⟩ := gPD_G (G' := gG a cI cZ (pk Q 0 (upd (Q 0) (bw x 9) (nI (bw (x >>> (3 &&& 31)) 10)))) T nb nq nw nr day nbt nqt nwt dayt co ca bo) hP hD rfl hk1 hB
              generalize H1 = H at hP hS ⊢
              have hP : va_P D vwCl (sW si fa ob op oc ow cI cW cO (upd (Q 0) (bw x 9) (nI (bw (x >>> (3 &&& 31)) 10))) nb nq nr (sRf ad 0 nb) (sRf ad 1 nq) (sRf ad 2 nr) (sRf ad 3 nw) (nI nw) (nI day) co ++ ((ts ++ gG a cI cZ (pk Q 0 (upd (Q 0) (bw x 9) (nI (bw (x >>> (3 &&& 31)) 10)))) T nb nq nw nr day nbt nqt nwt dayt co ca bo) ++ sPl nb nq nr nw ad (sEn cI (Q 1) (Q 2) (Q 3) (Q 4) (Q 5) (Q 6) (Q 7) (Q 8) (Q 9) (Q 11) (Q 12) (Q 13) ca sv rl))) _ := hP
              have hD : va_D A (sW si fa ob op oc ow cI cW cO (upd (Q 0) (bw x 9) (nI (bw (x >>> (3 &&& 31)) 10))) nb nq nr (sRf ad 0 nb) (sRf ad 1 nq) (sRf ad 2 nr) (sRf ad 3 nw) (nI nw) (nI day) co ++ ((ts ++ gG a cI cZ (pk Q 0 (upd (Q 0) (bw x 9) (nI (bw (x >>> (3 &&& 31)) 10)))) T nb nq nw nr day nbt nqt nwt dayt co ca bo) ++ sPl nb nq nr nw ad (sEn cI (Q 1) (Q 2) (Q 3) (Q 4) (Q 5) (Q 6) (Q 7) (Q 8) (Q 9) (Q 11) (Q 12) (Q 13) ca sv rl))) := hD
              subst hw
              refine lv_iload hx hb dL_act_412 (lv_at hl 0 rfl) ?_
              refine lv_icmp_ne (tgt := 421) hx hb dL_act_414 (by decide) (fun c_34 => (by first | exact absurd c_34 (rfl : Q 0 (bw x 9) = Q 0 (bw x 9)) | exact absurd (rfl : Q 0 (bw x 9) = Q 0 (bw x 9)) c_34)) (fun c_34 => ?_)
              refine lv_iconst (v := 1) hx hb dL_act_417 (by decide) ?_
              refine lv_goto (tgt := 422) hx hb dL_act_418 (by decide) ?_
              refine W.widen (k := 2) (n := 12) (by omega) (by omega) ?_
              exact W.zret (v := 1) hx hb hr rfl (fun t ht hW => ⟨⟨_, (), rfl, rfl, (⟨ob, op, oc, ad, pk Q 0 (upd (Q 0) (bw x 9) (nI (bw (x >>> (3 &&& 31)) 10))), nb, nq, nr, co, ca, bo, sv, rl, gw_hh ht hP, hD, hI.fall _, hX.fall (gw_in (n := 9) (by have h9 := bw_lt (v := x >>> (3 &&& 31)) (n := 10) (by decide); omega) (by decide)), aChk_same rfl rfl rfl, Nat.le_refl _⟩)⟩, hS.F ht⟩) hS.2.2 dL_act_422
            · skip
              refine lv_tableIn (off := 349) (tgt := 423) hx hb dL_act_74 (by decide) (by decide) rfl (by decide) ?_
              exact hK423 () _ _ _ ⟨hP, hD, hS, lv_sub hl [0, 1, 2, 3, 4, 5, 6, 7] rfl, trivial⟩
            · skip
              refine lv_tableIn (off := 349) (tgt := 423) hx hb dL_act_74 (by decide) (by decide) rfl (by decide) ?_
              exact hK423 () _ _ _ ⟨hP, hD, hS, lv_sub hl [0, 1, 2, 3, 4, 5, 6, 7] rfl, trivial⟩
            · skip
              refine lv_tableIn (off := 349) (tgt := 423) hx hb dL_act_74 (by decide) (by decide) rfl (by decide) ?_
              exact hK423 () _ _ _ ⟨hP, hD, hS, lv_sub hl [0, 1, 2, 3, 4, 5, 6, 7] rfl, trivial⟩
            · skip
              refine lv_tableIn (off := 415) (tgt := 489) hx hb dL_act_74 (by decide) (by decide) rfl (by decide) ?_
              rcases hwv with ⟨hw0, rfl⟩ | ⟨hw0, rfl⟩
              · skip
                have hl : lv_has ls 16 [(6, .int (nI rr)), (5, .int (nI nr)), (4, .int (nI nq)), (3, .int (nI nb)), (0, .ref (a 0)), (1, .ref si), (2, .int x), (7, .null)] := hl
                refine lv_aloadN hx hb dL_act_489 (lv_at hl 7 rfl) ?_
                refine lv_ifnullN (tgt := 513) hx hb dL_act_491 (by decide) ?_
                refine lv_iconst (v := 1) hx hb dL_act_513 (by decide) ?_
                refine W.widen (k := 2) (n := 12) (by omega) (by omega) ?_
                exact W.zret (v := 1) hx hb hr rfl (fun t ht hW => ⟨⟨_, (), rfl, rfl, (⟨ob, op, oc, ad, Q, nb, nq, nr, co, ca, bo, sv, rl, gw_hh ht hP, hD, hI, hX, aChk_same rfl rfl rfl, Nat.le_refl _⟩)⟩, hS.F ht⟩) hS.2.2 dL_act_514
              · skip
                have hl : lv_has ls 16 [(6, .int (nI rr)), (5, .int (nI nr)), (4, .int (nI nq)), (3, .int (nI nb)), (0, .ref (a 0)), (1, .ref si), (2, .int x), (7, .ref (ad (3, bw x nw)))] := hl
                refine lv_aload hx hb dL_act_489 (lv_at hl 7 rfl) ?_
                refine lv_ifnull hx hb dL_act_491 ?_
                refine lv_aload hx hb dL_act_494 (lv_at hl 7 rfl) ?_
                obtain ⟨i_35, hi_35, si_35⟩ := sAt3 (k := bw x nw) hP (bw_lt hw0)
                refine va_get (D := D) (ci := 7) (v := .int (Q 13 (bw x nw))) (C := RX7) (T := TX7) (N := 5) hx hb hts wc_L_act_X7 hown hK hP i_35 hi_35 rfl 3 (by decide) (hts _ wd_L_act_9) (fun _ h9 => h9) rfl dL_act_496 ?_
                refine lv_iconst (v := 1) hx hb dL_act_499 (by decide) ?_
                refine lv_icmp_gt (tgt := 513) hx hb dL_act_500 (by decide) (fun s1 => ?_) (fun s1 => ?_)
                · skip
                  refine lv_iconst (v := 1) hx hb dL_act_513 (by decide) ?_
                  refine W.widen (k := 2) (n := 12) (by omega) (by omega) ?_
                  exact W.zret (v := 1) hx hb hr rfl (fun t ht hW => ⟨⟨_, (), rfl, rfl, (⟨ob, op, oc, ad, Q, nb, nq, nr, co, ca, bo, sv, rl, gw_hh ht hP, hD, hI, hX, aChk_same rfl rfl rfl, Nat.le_refl _⟩)⟩, hS.F ht⟩) hS.2.2 dL_act_514
                · skip
                  have hs1 := sk_1 (hX.e13 (bw x nw) (bw_lt hw0)).1 s1
                  refine lv_iload_n hx hb dL_act_503 rfl (lv_at hl 6 rfl) ?_
                  refine lv_iconst (v := 5) hx hb dL_act_504 (by decide) ?_
                  refine lv_ishr hx hb dL_act_505 ?_
                  refine lv_iconst (v := 2) hx hb dL_act_506 (by decide) ?_
                  refine gw_top (y := nI 2) rfl ?_
                  refine va_calli (va_runS (As := [.int (x >>> (5 &&& 31)), .int (nI 2)]) (rest := []) ⟨hx, hb, hml, hown, hts⟩ (met_L_below l D cI cZ cW cO (x >>> (5 &&& 31)) 2 (by first | assumption | omega) (by first | assumption | omega)) (va_cwS 2 hts gL_act_L_below rfl rfl rfl (by decide +kernel) ⟨Nat.le_of_ble_eq_true rfl, Nat.le_of_ble_eq_true rfl⟩) (gv_psr hK (wc := []) (fun _ _ h9 => by cases h9)) rfl rfl hl.1 rfl (lv_room (Nat.le_of_ble_eq_true rfl)) dL_act_507 ⟨(by show _ ≤ 2; omega), (by show _ ≤ 12; omega)⟩) hS (fun _ _ z => z.elim) (fun _ z => z.elim) (fun r_37 _ t H1 locs ht hvm hw hB hz1 hk1 hS => ?_)
                  have hP := gw_ro hP hk1
                  generalize H1 = H at hP hS ⊢
                  subst hw
                  refine lv_if_ne (tgt := 515) hx hb dL_act_510 (by decide) (fun p5 => ?_) (fun p5 => ?_)
                  · skip
                    obtain ⟨b, hbb, hb9, hb10⟩ := hI.hwh.1 (bw x nw) (bw_lt hw0)
                    refine lv_aload_n hx hb dL_act_515 rfl (lv_at hl 5 rfl) ?_
                    refine va_get (D := D) (ci := 6) (v := .ref ob) (C := RX6) (T := TX6) (N := 8) hx hb hts wc_L_act_X6 hown hK hP 0 rfl rfl 1 (by decide) (hts _ wd_L_act_1) (fun _ h9 => h9) rfl dL_act_516 ?_
                    refine lv_aload hx hb dL_act_519 (lv_at hl 7 rfl) ?_
                    obtain ⟨i_39, hi_39, si_39⟩ := sAt3 (k := bw x nw) hP (bw_lt hw0)
                    refine va_get (D := D) (ci := 7) (v := .int (Q 9 (bw x nw))) (C := RX7) (T := TX7) (N := 5) hx hb hts wc_L_act_X7 hown hK hP i_39 hi_39 rfl 0 (by decide) (hts _ wd_L_act_10) (fun _ h9 => h9) rfl dL_act_521 ?_
                    refine gw_top (y := nI b) hb9 ?_
                    refine gw_aldA hx hb hK hP 2 3 (k := b) (v := ad (0, b)) rfl rfl (sRf_at (by first | assumption | omega)) (by first | assumption | omega) (by omega) dL_act_524 ?_
                    refine lv_astore (lv' := [(12, .ref (ad (0, b))), (6, .int (nI rr)), (5, .int (nI nr)), (4, .int (nI nq)), (3, .int (nI nb)), (0, .ref (a 0)), (1, .ref si), (2, .int x), (7, .ref (ad (3, bw x nw)))]) hx hb dL_act_525 hl (by decide) rfl (fun ls hl => ?_)
                    refine lv_aload hx hb dL_act_527 (lv_at hl 8 rfl) ?_
                    refine lv_iconst (v := 4) hx hb dL_act_529 (by decide) ?_
                    obtain ⟨i_40, hi_40, si_40⟩ := sAt3 (k := bw x nw) hP (bw_lt hw0)
                    refine va_put (D := D) (ci := 7) (v := .int 4) (ty := .int) (C := RX7) (T := TX7) (N := 5) hx hb hts wc_L_act_X7 tyX7 tyX7_ok nmX7 hown hK hP hD hS i_40 hi_40 rfl 3 (by decide) (hts _ wd_L_act_9) (fun _ h9 => h9) rfl (by decide +kernel) rfl rfl (Nat.le_of_ble_eq_true rfl) dL_act_530 (fun H locs hP hD hS => ?_)
                    rw [si_40] at hP hD
                    simp only [List.set_cons_succ, List.set_cons_zero] at hP hD
                    rw [sU3_3] at hP hD
                    have hP : va_P D vwCl (sW si fa ob op oc ow cI cW cO (Q 0) nb nq nr (sRf ad 0 nb) (sRf ad 1 nq) (sRf ad 2 nr) (sRf ad 3 nw) (nI nw) (nI day) co ++ ((ts ++ gG a cI cZ Q T nb nq nw nr day nbt nqt nwt dayt co ca bo) ++ sPl nb nq nr nw ad (sEn cI (Q 1) (Q 2) (Q 3) (Q 4) (Q 5) (Q 6) (Q 7) (Q 8) (Q 9) (Q 11) (Q 12) (upd (Q 13) (bw x nw) 4) ca sv rl))) _ := hP
                    have hD : va_D A (sW si fa ob op oc ow cI cW cO (Q 0) nb nq nr (sRf ad 0 nb) (sRf ad 1 nq) (sRf ad 2 nr) (sRf ad 3 nw) (nI nw) (nI day) co ++ ((ts ++ gG a cI cZ Q T nb nq nw nr day nbt nqt nwt dayt co ca bo) ++ sPl nb nq nr nw ad (sEn cI (Q 1) (Q 2) (Q 3) (Q 4) (Q 5) (Q 6) (Q 7) (Q 8) (Q 9) (Q 11) (Q 12) (upd (Q 13) (bw x nw) 4) ca sv rl))) := hD
                    refine lv_aload hx hb dL_act_533 (lv_at hl 0 rfl) ?_
                    refine lv_iconst (v := 2) hx hb dL_act_535 (by decide) ?_
                    refine lv_sipush (v := 200) hx hb dL_act_536 (by decide) ?_
                    refine lv_aload hx hb dL_act_539 (lv_at hl 0 rfl) ?_
                    refine lv_iconst (v := 2) hx hb dL_act_541 (by decide) ?_
                    obtain ⟨i_41, hi_41, si_41⟩ := sAt0 (k := b) hP hbb
                    refine gw_top (y := nI 2) rfl ?_
                    refine gw_iald hx hb hK hP i_41 0 (k := 2) hi_41 rfl (by first | decide | omega) (by decide) dL_act_542 ?_
                    refine gw_top (y := Q 3 b) rfl ?_
                    refine lv_aload hx hb dL_act_543 (lv_at hl 8 rfl) ?_
                    obtain ⟨i_42, hi_42, si_42⟩ := sAt3 (k := bw x nw) hP (bw_lt hw0)
                    refine va_get (D := D) (ci := 7) (v := .int (Q 11 (bw x nw))) (C := RX7) (T := TX7) (N := 5) hx hb hts wc_L_act_X7 hown hK hP i_42 hi_42 rfl 1 (by decide) (hts _ wd_L_act_11) (fun _ h9 => h9) rfl dL_act_545 ?_
                    refine lv_iconst (v := 2) hx hb dL_act_548 (by decide) ?_
                    refine lv_idiv hx hb dL_act_549 (by decide) ?_
                    refine lv_iadd hx hb dL_act_550 ?_
                    refine va_mmin (own := RL) hx hb (by rw [hml]; exact hl.1.symm) hown (hts _ wd_L_act_12) (hts _ wd_L_act_13) (hts _ wd_L_act_14) (hts _ wd_L_act_15) (Nat.le_of_ble_eq_true rfl) (Nat.le_of_ble_eq_true rfl) (Nat.zero_le _) (Nat.zero_le _) dL_act_551 ?_
                    obtain ⟨i_43, hi_43, si_43⟩ := sAt0 (k := b) hP hbb
                    refine gw_top2 (y := nI 2) rfl ?_
                    refine gw_iast hx hb hK hP hD hS i_43 0 (k := 2) hi_43 rfl (by first | decide | omega) (by decide) dL_act_554 (fun H locs hP hD hS => ?_)
                    rw [si_43, sU0_2] at hP hD
                    have hP : va_P D vwCl (sW si fa ob op oc ow cI cW cO (Q 0) nb nq nr (sRf ad 0 nb) (sRf ad 1 nq) (sRf ad 2 nr) (sRf ad 3 nw) (nI nw) (nI day) co ++ ((ts ++ gG a cI cZ Q T nb nq nw nr day nbt nqt nwt dayt co ca bo) ++ sPl nb nq nr nw ad (sEn cI (Q 1) (Q 2) (upd (Q 3) b (if ((Q 3 b) + ((Q 11 (bw x nw)) / 2)) < 200 then ((Q 3 b) + ((Q 11 (bw x nw)) / 2)) else 200)) (Q 4) (Q 5) (Q 6) (Q 7) (Q 8) (Q 9) (Q 11) (Q 12) (upd (Q 13) (bw x nw) 4) ca sv rl))) _ := hP
                    have hD : va_D A (sW si fa ob op oc ow cI cW cO (Q 0) nb nq nr (sRf ad 0 nb) (sRf ad 1 nq) (sRf ad 2 nr) (sRf ad 3 nw) (nI nw) (nI day) co ++ ((ts ++ gG a cI cZ Q T nb nq nw nr day nbt nqt nwt dayt co ca bo) ++ sPl nb nq nr nw ad (sEn cI (Q 1) (Q 2) (upd (Q 3) b (if ((Q 3 b) + ((Q 11 (bw x nw)) / 2)) < 200 then ((Q 3 b) + ((Q 11 (bw x nw)) / 2)) else 200)) (Q 4) (Q 5) (Q 6) (Q 7) (Q 8) (Q 9) (Q 11) (Q 12) (upd (Q 13) (bw x nw) 4) ca sv rl))) := hD
                    refine lv_aload_n hx hb dL_act_555 rfl (lv_at hl 5 rfl) ?_
                    refine lv_iload_n hx hb dL_act_556 rfl (lv_at hl 7 rfl) ?_
                    refine lv_aload_n hx hb dL_act_557 rfl (lv_at hl 6 rfl) ?_
                    refine va_get (D := D) (ci := 6) (v := .int (nI nw)) (C := RX6) (T := TX6) (N := 8) hx hb hts wc_L_act_X6 hown hK hP 0 rfl rfl 5 (by decide) (hts _ wd_L_act_4) (fun _ h9 => h9) rfl dL_act_558 ?_
                    refine va_calli (va_runS (As := [.int x, .int (nI nw)]) (rest := [.ref (a 0)]) ⟨hx, hb, hml, hown, hts⟩ (met_L_below l D cI cZ cW cO x nw hw0 (by first | assumption | omega)) (va_cwS 2 hts gL_act_L_below rfl rfl rfl (by decide +kernel) ⟨Nat.le_of_ble_eq_true rfl, Nat.le_of_ble_eq_true rfl⟩) (gv_psr hK (wc := []) (fun _ _ h9 => by cases h9)) rfl rfl hl.1 rfl (lv_room (Nat.le_of_ble_eq_true rfl)) dL_act_561 ⟨(by show _ ≤ 2; omega), (by show _ ≤ 12; omega)⟩) hS (fun _ _ z => z.elim) (fun _ z => z.elim) (fun r_44 _ t H1 locs ht hvm hw hB hz1 hk1 hS => ?_)
                    have hP := gw_ro hP hk1
                    generalize H1 = H at hP hS ⊢
                    subst hw
                    refine va_calli (va_runV (As := [.int (nI (bw x nw))]) (rest := []) ⟨hx, hb, hml, hown, hts⟩ (met_W_smash l D cI cZ cW cO a Q T nb nq nw nr day nbt nqt nwt dayt co ca bo (bw x nw) b (bw_lt hw0) (by first | assumption | omega) (by first | assumption | omega) hbb hb9 hs1.1) (cwV 1 hts gL_act_X5_smash rfl rfl rfl (by decide +kernel) ⟨Nat.le_of_ble_eq_true rfl, Nat.le_of_ble_eq_true rfl⟩) (gv_pvw hK (gP_G hP) (gD_G hD) 5 rfl rfl rfl) rfl rfl hl.1 rfl (lv_room (Nat.le_of_ble_eq_true rfl)) dL_act_564 ⟨(by show _ ≤ 2; omega), (by show _ ≤ 12; omega)⟩) hS (fun q _ h => gA_G hD q h) (gA_G hD) (fun r_45 _ t H1 locs ht hvm hw hB hz1 hk1 hS => ?_)
                    have hB : va_P D vwCl (gG a cI cZ (gSmash Q (bw x nw) b) T nb nq nw nr day nbt nqt nwt dayt co ca bo) t.heap := hB
                    rw [ht] at hB
                    obtain ⟨hP, hD⟩ := gPD_G (G' := gG a cI cZ (gSmash Q (bw x nw) b) T nb nq nw nr day nbt nqt nwt dayt co ca bo) hP hD rfl hk1 hB
                    generalize H1 = H at hP hS ⊢
                    have hP : va_P D vwCl (sW si fa ob op oc ow cI cW cO (Q 0) nb nq nr (sRf ad 0 nb) (sRf ad 1 nq) (sRf ad 2 nr) (sRf ad 3 nw) (nI nw) (nI day) co ++ ((ts ++ gG a cI cZ (gSmash Q (bw x nw) b) T nb nq nw nr day nbt nqt nwt dayt co ca bo) ++ sPl nb nq nr nw ad (sEn cI (Q 1) (Q 2) (upd (Q 3) b (if ((Q 3 b) + ((Q 11 (bw x nw)) / 2)) < 200 then ((Q 3 b) + ((Q 11 (bw x nw)) / 2)) else 200)) (Q 4) (Q 5) (Q 6) (Q 7) (Q 8) (Q 9) (Q 11) (Q 12) (upd (Q 13) (bw x nw) 4) ca sv rl))) _ := hP
                    have hD : va_D A (sW si fa ob op oc ow cI cW cO (Q 0) nb nq nr (sRf ad 0 nb) (sRf ad 1 nq) (sRf ad 2 nr) (sRf ad 3 nw) (nI nw) (nI day) co ++ ((ts ++ gG a cI cZ (gSmash Q (bw x nw) b) T nb nq nw nr day nbt nqt nwt dayt co ca bo) ++ sPl nb nq nr nw ad (sEn cI (Q 1) (Q 2) (upd (Q 3) b (if ((Q 3 b) + ((Q 11 (bw x nw)) / 2)) < 200 then ((Q 3 b) + ((Q 11 (bw x nw)) / 2)) else 200)) (Q 4) (Q 5) (Q 6) (Q 7) (Q 8) (Q 9) (Q 11) (Q 12) (upd (Q 13) (bw x nw) 4) ca sv rl))) := hD
                    subst hw
                    refine lv_aload hx hb dL_act_567 (lv_at hl 0 rfl) ?_
                    refine lv_iconst (v := 2) hx hb dL_act_569 (by decide) ?_
                    obtain ⟨i_46, hi_46, si_46⟩ := sAt0 (k := b) hP hbb
                    refine gw_top (y := nI 2) rfl ?_
                    refine gw_iald hx hb hK hP i_46 0 (k := 2) hi_46 rfl (by first | decide | omega) (by decide) dL_act_570 ?_
                    refine gw_top (y := upd (Q 3) b (if ((Q 3 b) + ((Q 11 (bw x nw)) / 2)) < 200 then ((Q 3 b) + ((Q 11 (bw x nw)) / 2)) else 200) b) rfl ?_
                    refine gw_top (y := if Q 3 b + Q 11 (bw x nw) / 2 < 200 then Q 3 b + Q 11 (bw x nw) / 2 else 200) upd_at ?_
                    refine lv_icmp_ne (tgt := 578) hx hb dL_act_571 (by decide) (fun c_47 => (by first | exact absurd c_47 (rfl : (if Q 3 b + Q 11 (bw x nw) / 2 < 200 then Q 3 b + Q 11 (bw x nw) / 2 else 200) = (if Q 3 b + Q 11 (bw x nw) / 2 < 200 then Q 3 b + Q 11 (bw x nw) / 2 else 200)) | exact absurd (rfl : (if Q 3 b + Q 11 (bw x nw) / 2 < 200 then Q 3 b + Q 11 (bw x nw) / 2 else 200) = (if Q 3 b + Q 11 (bw x nw) / 2 < 200 then Q 3 b + Q 11 (bw x nw) / 2 else 200)) c_47)) (fun c_47 => ?_)
                    refine lv_iconst (v := 1) hx hb dL_act_574 (by decide) ?_
                    refine lv_goto (tgt := 579) hx hb dL_act_575 (by decide) ?_
                    refine W.widen (k := 2) (n := 12) (by omega) (by omega) ?_
                    exact W.zret (v := 1) hx hb hr rfl (fun t ht hW => ⟨⟨_, (), rfl, rfl, (⟨ob, op, oc, ad, gSmash Q (bw x nw) b, nb, nq, nr, co, ca, bo, sv, rl, gw_hh ht hP, hD, hI.smash b hs1.1, hX.smash (bw_lt hw0) hbb hs1.1, aChk_smash (bw_lt hw0) hs1.2, Nat.le_refl _⟩)⟩, hS.F ht⟩) hS.2.2 dL_act_579
                  · skip
                    refine lv_iconst (v := 1) hx hb dL_act_513 (by decide) ?_
                    refine W.widen (k := 2) (n := 12) (by omega) (by omega) ?_
                    exact W.zret (v := 1) hx hb hr rfl (fun t ht hW => ⟨⟨_, (), rfl, rfl, (⟨ob, op, oc, ad, Q, nb, nq, nr, co, ca, bo, sv, rl, gw_hh ht hP, hD, hI, hX, aChk_same rfl rfl rfl, Nat.le_refl _⟩)⟩, hS.F ht⟩) hS.2.2 dL_act_514
            · skip
              refine lv_tableIn (off := 506) (tgt := 580) hx hb dL_act_74 (by decide) (by decide) rfl (by decide) ?_
              exact hK580 () _ _ _ ⟨hP, hD, hS, lv_sub hl [0, 1, 2, 3, 4, 5, 6, 7] rfl, trivial⟩
            · skip
              refine lv_tableIn (off := 506) (tgt := 580) hx hb dL_act_74 (by decide) (by decide) rfl (by decide) ?_
              exact hK580 () _ _ _ ⟨hP, hD, hS, lv_sub hl [0, 1, 2, 3, 4, 5, 6, 7] rfl, trivial⟩
            · skip
              refine lv_tableOut (tgt := 735) hx hb dL_act_74 (by decide) (by decide) ?_
              exact hK735 () _ _ _ ⟨hP, hD, hS, lv_sub hl [0, 1, 2, 3, 4, 5, 6, 7] rfl, trivial⟩
            · skip
              refine lv_tableOut (tgt := 735) hx hb dL_act_74 (by decide) (by decide) ?_
              exact hK735 () _ _ _ ⟨hP, hD, hS, lv_sub hl [0, 1, 2, 3, 4, 5, 6, 7] rfl, trivial⟩
            · skip
              refine lv_tableOut (tgt := 735) hx hb dL_act_74 (by decide) (by decide) ?_
              exact hK735 () _ _ _ ⟨hP, hD, hS, lv_sub hl [0, 1, 2, 3, 4, 5, 6, 7] rfl, trivial⟩
            · skip
              refine lv_tableOut (tgt := 735) hx hb dL_act_74 (by decide) (by decide) ?_
              exact hK735 () _ _ _ ⟨hP, hD, hS, lv_sub hl [0, 1, 2, 3, 4, 5, 6, 7] rfl, trivial⟩
            · skip
              refine lv_tableOut (tgt := 735) hx hb dL_act_74 (by decide) (by decide) ?_
              exact hK735 () _ _ _ ⟨hP, hD, hS, lv_sub hl [0, 1, 2, 3, 4, 5, 6, 7] rfl, trivial⟩
            · skip
              refine lv_tableOut (tgt := 735) hx hb dL_act_74 (by decide) (by decide) ?_
              exact hK735 () _ _ _ ⟨hP, hD, hS, lv_sub hl [0, 1, 2, 3, 4, 5, 6, 7] rfl, trivial⟩
          · skip
            rintro - H locs ls ⟨hP, hD, hS, hl, -⟩
            have hP : va_P D vwCl (sW si fa ob op oc ow cI cW cO (Q 0) nb nq nr (sRf ad 0 nb) (sRf ad 1 nq) (sRf ad 2 nr) (sRf ad 3 nw) (nI nw) (nI day) co ++ ((ts ++ gG a cI cZ Q T nb nq nw nr day nbt nqt nwt dayt co ca bo) ++ sPl nb nq nr nw ad (sEn cI (Q 1) (Q 2) (Q 3) (Q 4) (Q 5) (Q 6) (Q 7) (Q 8) (Q 9) (Q 11) (Q 12) (Q 13) ca sv rl))) H := hP
            have hD : va_D A (sW si fa ob op oc ow cI cW cO (Q 0) nb nq nr (sRf ad 0 nb) (sRf ad 1 nq) (sRf ad 2 nr) (sRf ad 3 nw) (nI nw) (nI day) co ++ ((ts ++ gG a cI cZ Q T nb nq nw nr day nbt nqt nwt dayt co ca bo) ++ sPl nb nq nr nw ad (sEn cI (Q 1) (Q 2) (Q 3) (Q 4) (Q 5) (Q 6) (Q 7) (Q 8) (Q 9) (Q 11) (Q 12) (Q 13) ca sv rl))) := hD
            have hl : lv_has ls 16 [(6, .int (nI rr)), (5, .int (nI nr)), (4, .int (nI nq)), (3, .int (nI nb)), (0, .ref (a 0)), (1, .ref si), (2, .int x), (7, wv)] := hl
            refine lv_iload hx hb dL_act_735 (lv_at hl 1 rfl) ?_
            refine lv_if_eq (tgt := 781) hx hb dL_act_737 (by decide) (fun r1 => ?_) (fun r1 => ?_)
            · skip
              refine lv_iconst (v := 1) hx hb dL_act_781 (by decide) ?_
              refine W.widen (k := 2) (n := 12) (by omega) (by omega) ?_
              exact W.zret (v := 1) hx hb hr rfl (fun t ht hW => ⟨⟨_, (), rfl, rfl, (⟨ob, op, oc, ad, Q, nb, nq, nr, co, ca, bo, sv, rl, gw_hh ht hP, hD, hI, hX, aChk_same rfl rfl rfl, Nat.le_refl _⟩)⟩, hS.F ht⟩) hS.2.2 dL_act_782
            · skip
              have hrn : rr < nr := hrr.resolve_left (fun e9 => r1 (by rw [e9]; rfl))
              rcases hwv with ⟨hw0, rfl⟩ | ⟨hw0, rfl⟩
              · skip
                have hl : lv_has ls 16 [(6, .int (nI rr)), (5, .int (nI nr)), (4, .int (nI nq)), (3, .int (nI nb)), (0, .ref (a 0)), (1, .ref si), (2, .int x), (7, .null)] := hl
                refine lv_aloadN hx hb dL_act_740 (lv_at hl 7 rfl) ?_
                refine lv_ifnullN (tgt := 781) hx hb dL_act_742 (by decide) ?_
                refine lv_iconst (v := 1) hx hb dL_act_781 (by decide) ?_
                refine W.widen (k := 2) (n := 12) (by omega) (by omega) ?_
                exact W.zret (v := 1) hx hb hr rfl (fun t ht hW => ⟨⟨_, (), rfl, rfl, (⟨ob, op, oc, ad, Q, nb, nq, nr, co, ca, bo, sv, rl, gw_hh ht hP, hD, hI, hX, aChk_same rfl rfl rfl, Nat.le_refl _⟩)⟩, hS.F ht⟩) hS.2.2 dL_act_782
              · skip
                have hl : lv_has ls 16 [(6, .int (nI rr)), (5, .int (nI nr)), (4, .int (nI nq)), (3, .int (nI nb)), (0, .ref (a 0)), (1, .ref si), (2, .int x), (7, .ref (ad (3, bw x nw)))] := hl
                refine lv_aload hx hb dL_act_740 (lv_at hl 7 rfl) ?_
                refine lv_ifnull hx hb dL_act_742 ?_
                refine lv_aload hx hb dL_act_745 (lv_at hl 7 rfl) ?_
                obtain ⟨i_49, hi_49, si_49⟩ := sAt3 (k := bw x nw) hP (bw_lt hw0)
                refine va_get (D := D) (ci := 7) (v := .int (Q 13 (bw x nw))) (C := RX7) (T := TX7) (N := 5) hx hb hts wc_L_act_X7 hown hK hP i_49 hi_49 rfl 3 (by decide) (hts _ wd_L_act_9) (fun _ h9 => h9) rfl dL_act_747 ?_
                refine lv_iconst (v := 1) hx hb dL_act_750 (by decide) ?_
                refine lv_icmp_ne (tgt := 781) hx hb dL_act_751 (by decide) (fun s1 => ?_) (fun s1 => ?_)
                · skip
                  refine lv_iconst (v := 1) hx hb dL_act_781 (by decide) ?_
                  refine W.widen (k := 2) (n := 12) (by omega) (by omega) ?_
                  exact W.zret (v := 1) hx hb hr rfl (fun t ht hW => ⟨⟨_, (), rfl, rfl, (⟨ob, op, oc, ad, Q, nb, nq, nr, co, ca, bo, sv, rl, gw_hh ht hP, hD, hI, hX, aChk_same rfl rfl rfl, Nat.le_refl _⟩)⟩, hS.F ht⟩) hS.2.2 dL_act_782
                · skip
                  refine lv_aload_n hx hb dL_act_754 rfl (lv_at hl 5 rfl) ?_
                  refine va_get (D := D) (ci := 6) (v := .ref oc) (C := RX6) (T := TX6) (N := 8) hx hb hts wc_L_act_X6 hown hK hP 0 rfl rfl 3 (by decide) (hts _ wd_L_act_3) (fun _ h9 => h9) rfl dL_act_755 ?_
                  refine lv_iload hx hb dL_act_758 (lv_at hl 0 rfl) ?_
                  refine gw_aldA hx hb hK hP 4 3 (k := rr) (v := ad (2, rr)) rfl rfl (sRf_at (by first | assumption | omega)) (by first | assumption | omega) (by omega) dL_act_760 ?_
                  refine lv_iconst (v := 1) hx hb dL_act_761 (by decide) ?_
                  obtain ⟨i_51, hi_51, si_51⟩ := sAt2 (k := rr) hP hrn
                  refine gw_top (y := nI 1) rfl ?_
                  refine gw_iald hx hb hK hP i_51 0 (k := 1) hi_51 rfl (by first | decide | omega) (by decide) dL_act_762 ?_
                  refine gw_top (y := sv rr) rfl ?_
                  refine lv_if_ge (tgt := 781) hx hb dL_act_763 (by decide) (fun a1 => ?_) (fun a1 => ?_)
                  · skip
                    refine lv_iconst (v := 1) hx hb dL_act_781 (by decide) ?_
                    refine W.widen (k := 2) (n := 12) (by omega) (by omega) ?_
                    exact W.zret (v := 1) hx hb hr rfl (fun t ht hW => ⟨⟨_, (), rfl, rfl, (⟨ob, op, oc, ad, Q, nb, nq, nr, co, ca, bo, sv, rl, gw_hh ht hP, hD, hI, hX, aChk_same rfl rfl rfl, Nat.le_refl _⟩)⟩, hS.F ht⟩) hS.2.2 dL_act_782
                  · skip
                    have ha : sv rr = -1 := sk_away hI hrn a1
                    refine lv_aload_n hx hb dL_act_766 rfl (lv_at hl 5 rfl) ?_
                    refine lv_aload hx hb dL_act_767 (lv_at hl 7 rfl) ?_
                    refine va_calli (va_runV (As := [.ref (ad (3, bw x nw))]) (rest := []) ⟨hx, hb, hml, hown, hts⟩ (met_X6_weight l D cI cZ cW cO si fa ob op oc ow ad nb nq nr nw day co (Q 0) (Q 1) (Q 2) (Q 3) (Q 4) (Q 5) (Q 6) (Q 7) (Q 8) (Q 9) (Q 11) (Q 12) (Q 13) ca sv rl (ts ++ gG a cI cZ Q T nb nq nw nr day nbt nqt nwt dayt co ca bo) (bw x nw) (bw_lt hw0)) (cwV 1 hts gL_act_X6_weight rfl rfl rfl (by decide +kernel) ⟨Nat.le_of_ble_eq_true rfl, Nat.le_of_ble_eq_true rfl⟩) (gv_pvr hK hP 6 rfl rfl rfl) rfl rfl hl.1 rfl (lv_room (Nat.le_of_ble_eq_true rfl)) dL_act_769 ⟨(by show _ ≤ 2; omega), (by show _ ≤ 12; omega)⟩) hS (fun _ _ z => z.elim) (fun _ z => z.elim) (fun r_53 _ t H1 locs ht hvm hw hB hz1 hk1 hS => ?_)
                    have hP := gw_ro hP hk1
                    generalize H1 = H at hP hS ⊢
                    subst hw
                    refine gw_top (y := 2 * Q 11 (bw x nw) * Q 11 (bw x nw)) (by rw [Int32.mul_assoc 2, Int32.mul_comm 2]) ?_
                    refine lv_aload_n hx hb dL_act_772 rfl (lv_at hl 5 rfl) ?_
                    refine lv_iload hx hb dL_act_773 (lv_at hl 0 rfl) ?_
                    refine va_calli (va_runV (As := [.int (nI rr)]) (rest := [.int (2 * Q 11 (bw x nw) * Q 11 (bw x nw))]) ⟨hx, hb, hml, hown, hts⟩ (met_X6_left l D cI cZ cW cO si fa ob op oc ow ad nb nq nr nw day co (Q 0) (Q 1) (Q 2) (Q 3) (Q 4) (Q 5) (Q 6) (Q 7) (Q 8) (Q 9) (Q 11) (Q 12) (Q 13) ca sv rl (ts ++ gG a cI cZ Q T nb nq nw nr day nbt nqt nwt dayt co ca bo) rr hrn (by first | assumption | omega) (by first | assumption | omega)) (cwV 1 hts gL_act_X6_left rfl rfl rfl (by decide +kernel) ⟨Nat.le_of_ble_eq_true rfl, Nat.le_of_ble_eq_true rfl⟩) (gv_pvr hK hP 6 rfl rfl rfl) rfl rfl hl.1 rfl (lv_room (Nat.le_of_ble_eq_true rfl)) dL_act_775 ⟨(by show _ ≤ 2; omega), (by show _ ≤ 12; omega)⟩) hS (fun _ _ z => z.elim) (fun _ z => z.elim) (fun r_54 _ t H1 locs ht hvm hw hB hz1 hk1 hS => ?_)
                    have hP := gw_ro hP hk1
                    generalize H1 = H at hP hS ⊢
                    subst hw
                    refine gw_top (y := gStill Q nw ca rr) (hX.left (by omega)) ?_
                    refine lv_icmp_le (tgt := 783) hx hb dL_act_778 (by decide) (fun le => ?_) (fun le => ?_)
                    · skip
                      have hX2 := hX.load (bw_lt hw0) hrn hnr s1 ha le
                      refine lv_aload hx hb dL_act_783 (lv_at hl 7 rfl) ?_
                      refine lv_iconst (v := 2) hx hb dL_act_785 (by decide) ?_
                      obtain ⟨i_56, hi_56, si_56⟩ := sAt3 (k := bw x nw) hP (bw_lt hw0)
                      refine va_put (D := D) (ci := 7) (v := .int 2) (ty := .int) (C := RX7) (T := TX7) (N := 5) hx hb hts wc_L_act_X7 tyX7 tyX7_ok nmX7 hown hK hP hD hS i_56 hi_56 rfl 3 (by decide) (hts _ wd_L_act_9) (fun _ h9 => h9) rfl (by decide +kernel) rfl rfl (Nat.le_of_ble_eq_true rfl) dL_act_786 (fun H locs hP hD hS => ?_)
                      rw [si_56] at hP hD
                      simp only [List.set_cons_succ, List.set_cons_zero] at hP hD
                      rw [sU3_3] at hP hD
                      have hP : va_P D vwCl (sW si fa ob op oc ow cI cW cO (Q 0) nb nq nr (sRf ad 0 nb) (sRf ad 1 nq) (sRf ad 2 nr) (sRf ad 3 nw) (nI nw) (nI day) co ++ ((ts ++ gG a cI cZ Q T nb nq nw nr day nbt nqt nwt dayt co ca bo) ++ sPl nb nq nr nw ad (sEn cI (Q 1) (Q 2) (Q 3) (Q 4) (Q 5) (Q 6) (Q 7) (Q 8) (Q 9) (Q 11) (Q 12) (upd (Q 13) (bw x nw) 2) ca sv rl))) _ := hP
                      have hD : va_D A (sW si fa ob op oc ow cI cW cO (Q 0) nb nq nr (sRf ad 0 nb) (sRf ad 1 nq) (sRf ad 2 nr) (sRf ad 3 nw) (nI nw) (nI day) co ++ ((ts ++ gG a cI cZ Q T nb nq nw nr day nbt nqt nwt dayt co ca bo) ++ sPl nb nq nr nw ad (sEn cI (Q 1) (Q 2) (Q 3) (Q 4) (Q 5) (Q 6) (Q 7) (Q 8) (Q 9) (Q 11) (Q 12) (upd (Q 13) (bw x nw) 2) ca sv rl))) := hD
                      refine lv_aload hx hb dL_act_789 (lv_at hl 7 rfl) ?_
                      refine lv_iload hx hb dL_act_791 (lv_at hl 0 rfl) ?_
                      obtain ⟨i_57, hi_57, si_57⟩ := sAt3 (k := bw x nw) hP (bw_lt hw0)
                      refine va_put (D := D) (ci := 7) (v := .int (nI rr)) (ty := .int) (C := RX7) (T := TX7) (N := 5) hx hb hts wc_L_act_X7 tyX7 tyX7_ok nmX7 hown hK hP hD hS i_57 hi_57 rfl 4 (by decide) (hts _ wd_L_act_16) (fun _ h9 => h9) rfl (by decide +kernel) rfl rfl (Nat.le_of_ble_eq_true rfl) dL_act_793 (fun H locs hP hD hS => ?_)
                      rw [si_57] at hP hD
                      simp only [List.set_cons_succ, List.set_cons_zero] at hP hD
                      rw [sU3_4] at hP hD
                      have hP : va_P D vwCl (sW si fa ob op oc ow cI cW cO (Q 0) nb nq nr (sRf ad 0 nb) (sRf ad 1 nq) (sRf ad 2 nr) (sRf ad 3 nw) (nI nw) (nI day) co ++ ((ts ++ gG a cI cZ Q T nb nq nw nr day nbt nqt nwt dayt co ca bo) ++ sPl nb nq nr nw ad (sEn cI (Q 1) (Q 2) (Q 3) (Q 4) (Q 5) (Q 6) (Q 7) (Q 8) (Q 9) (Q 11) (Q 12) (upd (Q 13) (bw x nw) 2) ca sv (upd rl (bw x nw) (nI rr))))) _ := hP
                      have hD : va_D A (sW si fa ob op oc ow cI cW cO (Q 0) nb nq nr (sRf ad 0 nb) (sRf ad 1 nq) (sRf ad 2 nr) (sRf ad 3 nw) (nI nw) (nI day) co ++ ((ts ++ gG a cI cZ Q T nb nq nw nr day nbt nqt nwt dayt co ca bo) ++ sPl nb nq nr nw ad (sEn cI (Q 1) (Q 2) (Q 3) (Q 4) (Q 5) (Q 6) (Q 7) (Q 8) (Q 9) (Q 11) (Q 12) (upd (Q 13) (bw x nw) 2) ca sv (upd rl (bw x nw) (nI rr))))) := hD
                      refine lv_aload_n hx hb dL_act_796 rfl (lv_at hl 4 rfl) ?_
                      refine lv_iload_n hx hb dL_act_797 rfl (lv_at hl 6 rfl) ?_
                      refine lv_aload_n hx hb dL_act_798 rfl (lv_at hl 5 rfl) ?_
                      refine va_get (D := D) (ci := 6) (v := .int (nI nw)) (C := RX6) (T := TX6) (N := 8) hx hb hts wc_L_act_X6 hown hK hP 0 rfl rfl 5 (by decide) (hts _ wd_L_act_4) (fun _ h9 => h9) rfl dL_act_799 ?_
                      refine va_calli (va_runS (As := [.int x, .int (nI nw)]) (rest := [.ref (a 0)]) ⟨hx, hb, hml, hown, hts⟩ (met_L_below l D cI cZ cW cO x nw hw0 (by first | assumption | omega)) (va_cwS 2 hts gL_act_L_below rfl rfl rfl (by decide +kernel) ⟨Nat.le_of_ble_eq_true rfl, Nat.le_of_ble_eq_true rfl⟩) (gv_psr hK (wc := []) (fun _ _ h9 => by cases h9)) rfl rfl hl.1 rfl (lv_room (Nat.le_of_ble_eq_true rfl)) dL_act_802 ⟨(by show _ ≤ 2; omega), (by show _ ≤ 12; omega)⟩) hS (fun _ _ z => z.elim) (fun _ z => z.elim) (fun r_58 _ t H1 locs ht hvm hw hB hz1 hk1 hS => ?_)
                      have hP := gw_ro hP hk1
                      generalize H1 = H at hP hS ⊢
                      subst hw
                      refine lv_iload hx hb dL_act_805 (lv_at hl 0 rfl) ?_
                      refine va_calli (va_runV (As := [.int (nI (bw x nw)), .int (nI rr)]) (rest := []) ⟨hx, hb, hml, hown, hts⟩ (met_W_load l D cI cZ cW cO a Q T nb nq nw nr day nbt nqt nwt dayt co ca bo (bw x nw) rr (bw_lt hw0) hrn (by first | assumption | omega) (by first | assumption | omega) s1 ((hI.away hrn).mp ha) le) (cwV 2 hts gL_act_X5_load rfl rfl rfl (by decide +kernel) ⟨Nat.le_of_ble_eq_true rfl, Nat.le_of_ble_eq_true rfl⟩) (gv_pvw hK (gP_G hP) (gD_G hD) 5 rfl rfl rfl) rfl rfl hl.1 rfl (lv_room (Nat.le_of_ble_eq_true rfl)) dL_act_807 ⟨(by show _ ≤ 2; omega), (by show _ ≤ 12; omega)⟩) hS (fun q _ h => gA_G hD q h) (gA_G hD) (fun r_59 _ t H1 locs ht hvm hw hB hz1 hk1 hS => ?_)
                      have hB : va_P D vwCl (gG a cI cZ (gPut Q (bw x nw) rr) T nb nq nw nr day nbt nqt nwt dayt co ca bo) t.heap := hB
                      rw [ht] at hB
                      obtain ⟨hP, hD⟩ := gPD_G (G' := gG a cI cZ (gPut Q (bw x nw) rr) T nb nq nw nr day nbt nqt nwt dayt co ca bo) hP hD rfl hk1 hB
                      generalize H1 = H at hP hS ⊢
                      have hP : va_P D vwCl (sW si fa ob op oc ow cI cW cO (Q 0) nb nq nr (sRf ad 0 nb) (sRf ad 1 nq) (sRf ad 2 nr) (sRf ad 3 nw) (nI nw) (nI day) co ++ ((ts ++ gG a cI cZ (gPut Q (bw x nw) rr) T nb nq nw nr day nbt nqt nwt dayt co ca bo) ++ sPl nb nq nr nw ad (sEn cI (Q 1) (Q 2) (Q 3) (Q 4) (Q 5) (Q 6) (Q 7) (Q 8) (Q 9) (Q 11) (Q 12) (upd (Q 13) (bw x nw) 2) ca sv (upd rl (bw x nw) (nI rr))))) _ := hP
                      have hD : va_D A (sW si fa ob op oc ow cI cW cO (Q 0) nb nq nr (sRf ad 0 nb) (sRf ad 1 nq) (sRf ad 2 nr) (sRf ad 3 nw) (nI nw) (nI day) co ++ ((ts ++ gG a cI cZ (gPut Q (bw x nw) rr) T nb nq nw nr day nbt nqt nwt dayt co ca bo) ++ sPl nb nq nr nw ad (sEn cI (Q 1) (Q 2) (Q 3) (Q 4) (Q 5) (Q 6) (Q 7) (Q 8) (Q 9) (Q 11) (Q 12) (upd (Q 13) (bw x nw) 2) ca sv (upd rl (bw x nw) (nI rr))))) := hD
                      subst hw
                      refine lv_aload_n hx hb dL_act_810 rfl (lv_at hl 5 rfl) ?_
                      refine lv_iload hx hb dL_act_811 (lv_at hl 0 rfl) ?_
                      refine va_calli (va_runV (As := [.int (nI rr)]) (rest := [.int (gStill (gPut Q (bw x nw) rr) nw ca rr)]) ⟨hx, hb, hml, hown, hts⟩ (met_X6_left l D cI cZ cW cO si fa ob op oc ow ad nb nq nr nw day co (Q 0) (Q 1) (Q 2) (Q 3) (Q 4) (Q 5) (Q 6) (Q 7) (Q 8) (Q 9) (Q 11) (Q 12) (upd (Q 13) (bw x nw) 2) ca sv (upd rl (bw x nw) (nI rr)) (ts ++ gG a cI cZ (gPut Q (bw x nw) rr) T nb nq nw nr day nbt nqt nwt dayt co ca bo) rr hrn (by first | assumption | omega) (by first | assumption | omega)) (cwV 1 hts gL_act_X6_left rfl rfl rfl (by decide +kernel) ⟨Nat.le_of_ble_eq_true rfl, Nat.le_of_ble_eq_true rfl⟩) (gv_pvr hK hP 6 rfl rfl rfl) rfl rfl hl.1 rfl (lv_room (Nat.le_of_ble_eq_true rfl)) dL_act_813 ⟨(by show _ ≤ 2; omega), (by show _ ≤ 12; omega)⟩) hS (fun _ _ z => z.elim) (fun _ z => z.elim) (fun r_60 _ t H1 locs ht hvm hw hB hz1 hk1 hS => ?_)
                      have hP := gw_ro hP hk1
                      generalize H1 = H at hP hS ⊢
                      subst hw
                      refine gw_top (y := gStill (gPut Q (bw x nw) rr) nw ca rr) (hX2.left (by omega)) ?_
                      refine lv_icmp_ne (tgt := 823) hx hb dL_act_816 (by decide) (fun c_61 => (by first | exact absurd c_61 (rfl : gStill (gPut Q (bw x nw) rr) nw ca rr = gStill (gPut Q (bw x nw) rr) nw ca rr) | exact absurd (rfl : gStill (gPut Q (bw x nw) rr) nw ca rr = gStill (gPut Q (bw x nw) rr) nw ca rr) c_61)) (fun c_61 => ?_)
                      refine lv_iconst (v := 1) hx hb dL_act_819 (by decide) ?_
                      refine lv_goto (tgt := 824) hx hb dL_act_820 (by decide) ?_
                      refine W.widen (k := 2) (n := 12) (by omega) (by omega) ?_
                      exact W.zret (v := 1) hx hb hr rfl (fun t ht hW => ⟨⟨_, (), rfl, rfl, (⟨ob, op, oc, ad, gPut Q (bw x nw) rr, nb, nq, nr, co, ca, bo, sv, upd rl (bw x nw) (nI rr), gw_hh ht hP, hD, hI.load _ _, hX2, aChk_load s1, Nat.le_refl _⟩)⟩, hS.F ht⟩) hS.2.2 dL_act_824
                    · skip
                      refine lv_iconst (v := 1) hx hb dL_act_781 (by decide) ?_
                      refine W.widen (k := 2) (n := 12) (by omega) (by omega) ?_
                      exact W.zret (v := 1) hx hb hr rfl (fun t ht hW => ⟨⟨_, (), rfl, rfl, (⟨ob, op, oc, ad, Q, nb, nq, nr, co, ca, bo, sv, rl, gw_hh ht hP, hD, hI, hX, aChk_same rfl rfl rfl, Nat.le_refl _⟩)⟩, hS.F ht⟩) hS.2.2 dL_act_782
        · skip
          rintro - H locs ls ⟨hP, hD, hS, hl, -⟩
          have hP : va_P D vwCl (sW si fa ob op oc ow cI cW cO (Q 0) nb nq nr (sRf ad 0 nb) (sRf ad 1 nq) (sRf ad 2 nr) (sRf ad 3 nw) (nI nw) (nI day) co ++ ((ts ++ gG a cI cZ Q T nb nq nw nr day nbt nqt nwt dayt co ca bo) ++ sPl nb nq nr nw ad (sEn cI (Q 1) (Q 2) (Q 3) (Q 4) (Q 5) (Q 6) (Q 7) (Q 8) (Q 9) (Q 11) (Q 12) (Q 13) ca sv rl))) H := hP
          have hD : va_D A (sW si fa ob op oc ow cI cW cO (Q 0) nb nq nr (sRf ad 0 nb) (sRf ad 1 nq) (sRf ad 2 nr) (sRf ad 3 nw) (nI nw) (nI day) co ++ ((ts ++ gG a cI cZ Q T nb nq nw nr day nbt nqt nwt dayt co ca bo) ++ sPl nb nq nr nw ad (sEn cI (Q 1) (Q 2) (Q 3) (Q 4) (Q 5) (Q 6) (Q 7) (Q 8) (Q 9) (Q 11) (Q 12) (Q 13) ca sv rl))) := hD
          have hl : lv_has ls 16 [(6, .int (nI rr)), (5, .int (nI nr)), (4, .int (nI nq)), (3, .int (nI nb)), (0, .ref (a 0)), (1, .ref si), (2, .int x), (7, wv)] := hl
          refine lv_iload hx hb dL_act_580 (lv_at hl 1 rfl) ?_
          refine lv_if_eq (tgt := 623) hx hb dL_act_582 (by decide) (fun r1 => ?_) (fun r1 => ?_)
          · skip
            refine lv_iconst (v := 1) hx hb dL_act_623 (by decide) ?_
            refine W.widen (k := 2) (n := 12) (by omega) (by omega) ?_
            exact W.zret (v := 1) hx hb hr rfl (fun t ht hW => ⟨⟨_, (), rfl, rfl, (⟨ob, op, oc, ad, Q, nb, nq, nr, co, ca, bo, sv, rl, gw_hh ht hP, hD, hI, hX, aChk_same rfl rfl rfl, Nat.le_refl _⟩)⟩, hS.F ht⟩) hS.2.2 dL_act_624
          · skip
            have hrn : rr < nr := hrr.resolve_left (fun e9 => r1 (by rw [e9]; rfl))
            refine lv_aload_n hx hb dL_act_585 rfl (lv_at hl 5 rfl) ?_
            refine va_get (D := D) (ci := 6) (v := .ref oc) (C := RX6) (T := TX6) (N := 8) hx hb hts wc_L_act_X6 hown hK hP 0 rfl rfl 3 (by decide) (hts _ wd_L_act_3) (fun _ h9 => h9) rfl dL_act_586 ?_
            refine lv_iload hx hb dL_act_589 (lv_at hl 0 rfl) ?_
            refine gw_aldA hx hb hK hP 4 3 (k := rr) (v := ad (2, rr)) rfl rfl (sRf_at hrn) hrn (by omega) dL_act_591 ?_
            refine lv_iconst (v := 1) hx hb dL_act_592 (by decide) ?_
            obtain ⟨i_63, hi_63, si_63⟩ := sAt2 (k := rr) hP hrn
            refine gw_top (y := nI 1) rfl ?_
            refine gw_iald hx hb hK hP i_63 0 (k := 1) hi_63 rfl (by first | decide | omega) (by decide) dL_act_593 ?_
            refine gw_top (y := sv rr) rfl ?_
            refine lv_if_ge (tgt := 623) hx hb dL_act_594 (by decide) (fun a1 => ?_) (fun a1 => ?_)
            · skip
              refine lv_iconst (v := 1) hx hb dL_act_623 (by decide) ?_
              refine W.widen (k := 2) (n := 12) (by omega) (by omega) ?_
              exact W.zret (v := 1) hx hb hr rfl (fun t ht hW => ⟨⟨_, (), rfl, rfl, (⟨ob, op, oc, ad, Q, nb, nq, nr, co, ca, bo, sv, rl, gw_hh ht hP, hD, hI, hX, aChk_same rfl rfl rfl, Nat.le_refl _⟩)⟩, hS.F ht⟩) hS.2.2 dL_act_624
            · skip
              have ha : sv rr = -1 := sk_away hI hrn a1
              refine lv_aload_n hx hb dL_act_597 rfl (lv_at hl 5 rfl) ?_
              refine va_calli (va_runV (As := []) (rest := []) ⟨hx, hb, hml, hown, hts⟩ (met_X6_water l D cI cZ cW cO si fa ob op oc ow ad nb nq nr nw day co (Q 0) (Q 1) (Q 2) (Q 3) (Q 4) (Q 5) (Q 6) (Q 7) (Q 8) (Q 9) (Q 11) (Q 12) (Q 13) ca sv rl (ts ++ gG a cI cZ Q T nb nq nw nr day nbt nqt nwt dayt co ca bo) (by first | assumption | omega)) (cwV 0 hts gL_act_X6_water rfl rfl rfl (by decide +kernel) ⟨Nat.le_of_ble_eq_true rfl, Nat.le_of_ble_eq_true rfl⟩) (gv_pvr hK hP 6 rfl rfl rfl) rfl rfl hl.1 rfl (lv_room (Nat.le_of_ble_eq_true rfl)) dL_act_598 ⟨(by show _ ≤ 2; omega), (by show _ ≤ 12; omega)⟩) hS (fun _ _ z => z.elim) (fun _ z => z.elim) (fun r_65 _ t H1 locs ht hvm hw hB hz1 hk1 hS => ?_)
              have hP := gw_ro hP hk1
              generalize H1 = H at hP hS ⊢
              subst hw
              refine lv_iconst (v := 2) hx hb dL_act_601 (by decide) ?_
              refine lv_icmp_lt (tgt := 623) hx hb dL_act_602 (by decide) (fun wa => ?_) (fun wa => ?_)
              · skip
                refine lv_iconst (v := 1) hx hb dL_act_623 (by decide) ?_
                refine W.widen (k := 2) (n := 12) (by omega) (by omega) ?_
                exact W.zret (v := 1) hx hb hr rfl (fun t ht hW => ⟨⟨_, (), rfl, rfl, (⟨ob, op, oc, ad, Q, nb, nq, nr, co, ca, bo, sv, rl, gw_hh ht hP, hD, hI, hX, aChk_same rfl rfl rfl, Nat.le_refl _⟩)⟩, hS.F ht⟩) hS.2.2 dL_act_624
              · skip
                refine lv_aload_n hx hb dL_act_605 rfl (lv_at hl 5 rfl) ?_
                refine lv_iload hx hb dL_act_606 (lv_at hl 0 rfl) ?_
                refine va_calli (va_runV (As := [.int (nI rr)]) (rest := []) ⟨hx, hb, hml, hown, hts⟩ (met_X6_left l D cI cZ cW cO si fa ob op oc ow ad nb nq nr nw day co (Q 0) (Q 1) (Q 2) (Q 3) (Q 4) (Q 5) (Q 6) (Q 7) (Q 8) (Q 9) (Q 11) (Q 12) (Q 13) ca sv rl (ts ++ gG a cI cZ Q T nb nq nw nr day nbt nqt nwt dayt co ca bo) rr hrn (by first | assumption | omega) (by first | assumption | omega)) (cwV 1 hts gL_act_X6_left rfl rfl rfl (by decide +kernel) ⟨Nat.le_of_ble_eq_true rfl, Nat.le_of_ble_eq_true rfl⟩) (gv_pvr hK hP 6 rfl rfl rfl) rfl rfl hl.1 rfl (lv_room (Nat.le_of_ble_eq_true rfl)) dL_act_608 ⟨(by show _ ≤ 2; omega), (by show _ ≤ 12; omega)⟩) hS (fun _ _ z => z.elim) (fun _ z => z.elim) (fun r_67 _ t H1 locs ht hvm hw hB hz1 hk1 hS => ?_)
                have hP := gw_ro hP hk1
                generalize H1 = H at hP hS ⊢
                subst hw
                refine gw_top (y := gStill Q nw ca rr) (hX.left (by omega)) ?_
                refine lv_aload_n hx hb dL_act_611 rfl (lv_at hl 5 rfl) ?_
                refine va_get (D := D) (ci := 6) (v := .ref oc) (C := RX6) (T := TX6) (N := 8) hx hb hts wc_L_act_X6 hown hK hP 0 rfl rfl 3 (by decide) (hts _ wd_L_act_3) (fun _ h9 => h9) rfl dL_act_612 ?_
                refine lv_iload hx hb dL_act_615 (lv_at hl 0 rfl) ?_
                refine gw_aldA hx hb hK hP 4 3 (k := rr) (v := ad (2, rr)) rfl rfl (sRf_at (by first | assumption | omega)) (by first | assumption | omega) (by omega) dL_act_617 ?_
                refine lv_iconst (v := 0) hx hb dL_act_618 (by decide) ?_
                obtain ⟨i_68, hi_68, si_68⟩ := sAt2 (k := rr) hP hrn
                refine gw_top (y := nI 0) rfl ?_
                refine gw_iald hx hb hK hP i_68 0 (k := 0) hi_68 rfl (by first | decide | omega) (by decide) dL_act_619 ?_
                refine gw_top (y := ca rr) rfl ?_
                refine lv_icmp_ne (tgt := 625) hx hb dL_act_620 (by decide) (fun lf => ?_) (fun lf => ?_)
                · skip
                  refine lv_iconst (v := 0) hx hb dL_act_625 (by decide) ?_
                  refine lv_istore (lv' := [(13, .int 0), (6, .int (nI rr)), (5, .int (nI nr)), (4, .int (nI nq)), (3, .int (nI nb)), (0, .ref (a 0)), (1, .ref si), (2, .int x), (7, wv)]) hx hb dL_act_626 hl (by decide) rfl (fun ls hl => ?_)
                  refine lv_iconst (v := 0) hx hb dL_act_628 (by decide) ?_
                  refine lv_istore (lv' := [(14, .int 0), (13, .int 0), (6, .int (nI rr)), (5, .int (nI nr)), (4, .int (nI nq)), (3, .int (nI nb)), (0, .ref (a 0)), (1, .ref si), (2, .int x), (7, wv)]) hx hb dL_act_629 hl (by decide) rfl (fun ls hl => ?_)
                  have hP : va_P D vwCl (sW si fa ob op oc ow cI cW cO (Q 0) nb nq nr (sRf ad 0 nb) (sRf ad 1 nq) (sRf ad 2 nr) (sRf ad 3 nw) (nI nw) (nI day) co ++ ((ts ++ gG a cI cZ Q T nb nq nw nr day nbt nqt nwt dayt co ca bo) ++ sPl nb nq nr nw ad (sEn cI (Q 1) (Q 2) (Q 3) (Q 4) (Q 5) (Q 6) (Q 7) (Q 8) (Q 9) (Q 11) (Q 12) (gM 0 (fun j => if Q 14 j = nI rr then 3 else Q 13 j) (Q 13)) ca sv rl))) H := by rw [gM_0]; exact hP
                  have hD : va_D A (sW si fa ob op oc ow cI cW cO (Q 0) nb nq nr (sRf ad 0 nb) (sRf ad 1 nq) (sRf ad 2 nr) (sRf ad 3 nw) (nI nw) (nI day) co ++ ((ts ++ gG a cI cZ Q T nb nq nw nr day nbt nqt nwt dayt co ca bo) ++ sPl nb nq nr nw ad (sEn cI (Q 1) (Q 2) (Q 3) (Q 4) (Q 5) (Q 6) (Q 7) (Q 8) (Q 9) (Q 11) (Q 12) (gM 0 (fun j => if Q 14 j = nI rr then 3 else Q 13 j) (Q 13)) ca sv rl))) := by rw [gM_0]; exact hD
                  refine gw_loop (fun (zz : Nat × Nat × Int32) H locs ls => match zz with | (k, i3, acc) => va_P D vwCl (sW si fa ob op oc ow cI cW cO (Q 0) nb nq nr (sRf ad 0 nb) (sRf ad 1 nq) (sRf ad 2 nr) (sRf ad 3 nw) (nI nw) (nI day) co ++ ((ts ++ gG a cI cZ Q T nb nq nw nr day nbt nqt nwt dayt co ca bo) ++ sPl nb nq nr nw ad (sEn cI (Q 1) (Q 2) (Q 3) (Q 4) (Q 5) (Q 6) (Q 7) (Q 8) (Q 9) (Q 11) (Q 12) (gM i3 (fun j => if Q 14 j = nI rr then 3 else Q 13 j) (Q 13)) ca sv rl))) H ∧ va_D A (sW si fa ob op oc ow cI cW cO (Q 0) nb nq nr (sRf ad 0 nb) (sRf ad 1 nq) (sRf ad 2 nr) (sRf ad 3 nw) (nI nw) (nI day) co ++ ((ts ++ gG a cI cZ Q T nb nq nw nr day nbt nqt nwt dayt co ca bo) ++ sPl nb nq nr nw ad (sEn cI (Q 1) (Q 2) (Q 3) (Q 4) (Q 5) (Q 6) (Q 7) (Q 8) (Q 9) (Q 11) (Q 12) (gM i3 (fun j => if Q 14 j = nI rr then 3 else Q 13 j) (Q 13)) ca sv rl))) ∧ va_S A s.heap H locs ∧ lv_has ls 16 [(14, .int (nI i3)), (13, .int acc), (6, .int (nI rr)), (5, .int (nI nr)), (4, .int (nI nq)), (3, .int (nI nb)), (0, .ref (a 0)), (1, .ref si), (2, .int x), (7, wv)] ∧ (i3 + k = nw) ∧ (gS (fun j => if Q 14 j = nI rr then gWorth (Q 11 j) (Q 10 j) (Q 13 j) (Q 12 j) else 0) k i3 acc = gS (fun j => if Q 14 j = nI rr then gWorth (Q 11 j) (Q 10 j) (Q 13 j) (Q 12 j) else 0) nw 0 0)) (fun (zz : Nat × Nat × Int32) => match zz with | (k, i3, acc) => k) (nw, 0, 0) ⟨hP, hD, hS, lv_sub hl [0, 1, 2, 3, 4, 5, 6, 7, 8, 9] rfl, (by omega), rfl⟩ ?_
                  rintro ⟨k, i3, acc⟩ ih H locs ls ⟨hP, hD, hS, hl, hin3, hFs⟩
                  have hP : va_P D vwCl (sW si fa ob op oc ow cI cW cO (Q 0) nb nq nr (sRf ad 0 nb) (sRf ad 1 nq) (sRf ad 2 nr) (sRf ad 3 nw) (nI nw) (nI day) co ++ ((ts ++ gG a cI cZ Q T nb nq nw nr day nbt nqt nwt dayt co ca bo) ++ sPl nb nq nr nw ad (sEn cI (Q 1) (Q 2) (Q 3) (Q 4) (Q 5) (Q 6) (Q 7) (Q 8) (Q 9) (Q 11) (Q 12) (gM i3 (fun j => if Q 14 j = nI rr then 3 else Q 13 j) (Q 13)) ca sv rl))) H := hP
                  have hD : va_D A (sW si fa ob op oc ow cI cW cO (Q 0) nb nq nr (sRf ad 0 nb) (sRf ad 1 nq) (sRf ad 2 nr) (sRf ad 3 nw) (nI nw) (nI day) co ++ ((ts ++ gG a cI cZ Q T nb nq nw nr day nbt nqt nwt dayt co ca bo) ++ sPl nb nq nr nw ad (sEn cI (Q 1) (Q 2) (Q 3) (Q 4) (Q 5) (Q 6) (Q 7) (Q 8) (Q 9) (Q 11) (Q 12) (gM i3 (fun j => if Q 14 j = nI rr then 3 else Q 13 j) (Q 13)) ca sv rl))) := hD
                  have hl : lv_has ls 16 [(14, .int (nI i3)), (13, .int acc), (6, .int (nI rr)), (5, .int (nI nr)), (4, .int (nI nq)), (3, .int (nI nb)), (0, .ref (a 0)), (1, .ref si), (2, .int x), (7, wv)] := hl
                  have hin3 : i3 + k = nw := hin3
                  have hFs : gS (fun j => if Q 14 j = nI rr then gWorth (Q 11 j) (Q 10 j) (Q 13 j) (Q 12 j) else 0) k i3 acc = gS (fun j => if Q 14 j = nI rr then gWorth (Q 11 j) (Q 10 j) (Q 13 j) (Q 12 j) else 0) nw 0 0 := hFs
                  have ih631 := ih
                  refine lv_iload hx hb dL_act_631 (lv_at hl 0 rfl) ?_
                  refine lv_aload_n hx hb dL_act_633 rfl (lv_at hl 7 rfl) ?_
                  refine va_get (D := D) (ci := 6) (v := .int (nI nw)) (C := RX6) (T := TX6) (N := 8) hx hb hts wc_L_act_X6 hown hK hP 0 rfl rfl 5 (by decide) (hts _ wd_L_act_4) (fun _ h9 => h9) rfl dL_act_634 ?_
                  refine lv_icmp_ge (tgt := 694) hx hb dL_act_637 (by decide) (fun c => ?_) (fun c => ?_)
                  · skip
                    have hk0 : k = 0 := by have := gw_ge (by omega) (by omega) c; omega
                    subst hk0
                    have hie : nw = i3 := by omega
                    subst hie
                    have hFs : acc = gS (fun j => if Q 14 j = nI rr then gWorth (Q 11 j) (Q 10 j) (Q 13 j) (Q 12 j) else 0) nw 0 0 := hFs
                    subst hFs
                    refine lv_aload_n hx hb dL_act_694 rfl (lv_at hl 7 rfl) ?_
                    refine lv_dup hx hb dL_act_695 rfl ?_
                    refine va_get (D := D) (ci := 6) (v := .int co) (C := RX6) (T := TX6) (N := 8) hx hb hts wc_L_act_X6 hown hK hP 0 rfl rfl 7 (by decide) (hts _ wd_L_act_17) (fun _ h9 => h9) rfl dL_act_696 ?_
                    refine lv_iload hx hb dL_act_699 (lv_at hl 1 rfl) ?_
                    refine lv_iadd hx hb dL_act_701 ?_
                    refine va_put (D := D) (ci := 6) (v := .int (co + (gS (fun j => if Q 14 j = nI rr then gWorth (Q 11 j) (Q 10 j) (Q 13 j) (Q 12 j) else 0) nw 0 0))) (ty := .int) (C := RX6) (T := TX6) (N := 8) hx hb hts wc_L_act_X6 tyX6 tyX6_ok nmX6 hown hK hP hD hS 0 rfl rfl 7 (by decide) (hts _ wd_L_act_17) (fun _ h9 => h9) rfl (by decide +kernel) rfl rfl (Nat.le_of_ble_eq_true rfl) dL_act_702 (fun H locs hP hD hS => ?_)
                    have hP : va_P D vwCl (sW si fa ob op oc ow cI cW cO (Q 0) nb nq nr (sRf ad 0 nb) (sRf ad 1 nq) (sRf ad 2 nr) (sRf ad 3 nw) (nI nw) (nI day) (co + (gS (fun j => if Q 14 j = nI rr then gWorth (Q 11 j) (Q 10 j) (Q 13 j) (Q 12 j) else 0) nw 0 0)) ++ ((ts ++ gG a cI cZ Q T nb nq nw nr day nbt nqt nwt dayt co ca bo) ++ sPl nb nq nr nw ad (sEn cI (Q 1) (Q 2) (Q 3) (Q 4) (Q 5) (Q 6) (Q 7) (Q 8) (Q 9) (Q 11) (Q 12) (gM nw (fun j => if Q 14 j = nI rr then 3 else Q 13 j) (Q 13)) ca sv rl))) _ := hP
                    have hD : va_D A (sW si fa ob op oc ow cI cW cO (Q 0) nb nq nr (sRf ad 0 nb) (sRf ad 1 nq) (sRf ad 2 nr) (sRf ad 3 nw) (nI nw) (nI day) (co + (gS (fun j => if Q 14 j = nI rr then gWorth (Q 11 j) (Q 10 j) (Q 13 j) (Q 12 j) else 0) nw 0 0)) ++ ((ts ++ gG a cI cZ Q T nb nq nw nr day nbt nqt nwt dayt co ca bo) ++ sPl nb nq nr nw ad (sEn cI (Q 1) (Q 2) (Q 3) (Q 4) (Q 5) (Q 6) (Q 7) (Q 8) (Q 9) (Q 11) (Q 12) (gM nw (fun j => if Q 14 j = nI rr then 3 else Q 13 j) (Q 13)) ca sv rl))) := hD
                    refine lv_aload_n hx hb dL_act_705 rfl (lv_at hl 7 rfl) ?_
                    refine va_get (D := D) (ci := 6) (v := .ref oc) (C := RX6) (T := TX6) (N := 8) hx hb hts wc_L_act_X6 hown hK hP 0 rfl rfl 3 (by decide) (hts _ wd_L_act_3) (fun _ h9 => h9) rfl dL_act_706 ?_
                    refine lv_iload hx hb dL_act_709 (lv_at hl 2 rfl) ?_
                    refine gw_aldA hx hb hK hP 4 3 (k := rr) (v := ad (2, rr)) rfl rfl (sRf_at (by first | assumption | omega)) (by first | assumption | omega) (by omega) dL_act_711 ?_
                    refine lv_iconst (v := 1) hx hb dL_act_712 (by decide) ?_
                    refine lv_aload_n hx hb dL_act_713 rfl (lv_at hl 7 rfl) ?_
                    refine va_get (D := D) (ci := 6) (v := .int (nI day)) (C := RX6) (T := TX6) (N := 8) hx hb hts wc_L_act_X6 hown hK hP 0 rfl rfl 6 (by decide) (hts _ wd_L_act_18) (fun _ h9 => h9) rfl dL_act_714 ?_
                    obtain ⟨i_71, hi_71, si_71⟩ := sAt2 (k := rr) hP hrn
                    refine gw_top2 (y := nI 1) rfl ?_
                    refine gw_iast hx hb hK hP hD hS i_71 0 (k := 1) hi_71 rfl (by first | decide | omega) (by decide) dL_act_717 (fun H locs hP hD hS => ?_)
                    rw [si_71, sU2_1] at hP hD
                    have hP : va_P D vwCl (sW si fa ob op oc ow cI cW cO (Q 0) nb nq nr (sRf ad 0 nb) (sRf ad 1 nq) (sRf ad 2 nr) (sRf ad 3 nw) (nI nw) (nI day) (co + (gS (fun j => if Q 14 j = nI rr then gWorth (Q 11 j) (Q 10 j) (Q 13 j) (Q 12 j) else 0) nw 0 0)) ++ ((ts ++ gG a cI cZ Q T nb nq nw nr day nbt nqt nwt dayt co ca bo) ++ sPl nb nq nr nw ad (sEn cI (Q 1) (Q 2) (Q 3) (Q 4) (Q 5) (Q 6) (Q 7) (Q 8) (Q 9) (Q 11) (Q 12) (gM nw (fun j => if Q 14 j = nI rr then 3 else Q 13 j) (Q 13)) ca (upd sv rr (nI day)) rl))) _ := hP
                    have hD : va_D A (sW si fa ob op oc ow cI cW cO (Q 0) nb nq nr (sRf ad 0 nb) (sRf ad 1 nq) (sRf ad 2 nr) (sRf ad 3 nw) (nI nw) (nI day) (co + (gS (fun j => if Q 14 j = nI rr then gWorth (Q 11 j) (Q 10 j) (Q 13 j) (Q 12 j) else 0) nw 0 0)) ++ ((ts ++ gG a cI cZ Q T nb nq nw nr day nbt nqt nwt dayt co ca bo) ++ sPl nb nq nr nw ad (sEn cI (Q 1) (Q 2) (Q 3) (Q 4) (Q 5) (Q 6) (Q 7) (Q 8) (Q 9) (Q 11) (Q 12) (gM nw (fun j => if Q 14 j = nI rr then 3 else Q 13 j) (Q 13)) ca (upd sv rr (nI day)) rl))) := hD
                    refine lv_aload_n hx hb dL_act_718 rfl (lv_at hl 6 rfl) ?_
                    refine lv_iload hx hb dL_act_719 (lv_at hl 2 rfl) ?_
                    refine va_calli (va_runV (As := [.int (nI rr)]) (rest := []) ⟨hx, hb, hml, hown, hts⟩ (met_W_ship l D cI cZ cW cO a Q T nb nq nw nr day nbt nqt nwt dayt co ca bo rr hrn (by first | assumption | omega) (by first | assumption | omega) hdy ((hI.away hrn).mp ha) (fun e9 => lf (gStill_0 (gOn_0 hnw e9))) (Int32.not_lt.mp wa)) (cwV 1 hts gL_act_X5_ship rfl rfl rfl (by decide +kernel) ⟨Nat.le_of_ble_eq_true rfl, Nat.le_of_ble_eq_true rfl⟩) (gv_pvw hK (gP_G hP) (gD_G hD) 5 rfl rfl rfl) rfl rfl hl.1 rfl (lv_room (Nat.le_of_ble_eq_true rfl)) dL_act_721 ⟨(by show _ ≤ 2; omega), (by show _ ≤ 12; omega)⟩) hS (fun q _ h => gA_G hD q h) (gA_G hD) (fun r_72 _ t H1 locs ht hvm hw hB hz1 hk1 hS => ?_)
                    have hB : va_P D vwCl (gG a cI cZ (gShip Q rr nw) T nb nq nw nr day nbt nqt nwt dayt (co + gS (fun j => if Q 14 j = nI rr then gWorth (Q 11 j) (Q 10 j) (Q 13 j) (Q 12 j) else 0) nw 0 0) ca (upd bo rr (nI (day + 4)))) t.heap := hB
                    rw [ht] at hB
                    obtain ⟨hP, hD⟩ := gPD_G (G' := gG a cI cZ (gShip Q rr nw) T nb nq nw nr day nbt nqt nwt dayt (co + gS (fun j => if Q 14 j = nI rr then gWorth (Q 11 j) (Q 10 j) (Q 13 j) (Q 12 j) else 0) nw 0 0) ca (upd bo rr (nI (day + 4)))) hP hD rfl hk1 hB
                    generalize H1 = H at hP hS ⊢
                    have hP : va_P D vwCl (sW si fa ob op oc ow cI cW cO (Q 0) nb nq nr (sRf ad 0 nb) (sRf ad 1 nq) (sRf ad 2 nr) (sRf ad 3 nw) (nI nw) (nI day) (co + (gS (fun j => if Q 14 j = nI rr then gWorth (Q 11 j) (Q 10 j) (Q 13 j) (Q 12 j) else 0) nw 0 0)) ++ ((ts ++ gG a cI cZ (gShip Q rr nw) T nb nq nw nr day nbt nqt nwt dayt (co + gS (fun j => if Q 14 j = nI rr then gWorth (Q 11 j) (Q 10 j) (Q 13 j) (Q 12 j) else 0) nw 0 0) ca (upd bo rr (nI (day + 4)))) ++ sPl nb nq nr nw ad (sEn cI (Q 1) (Q 2) (Q 3) (Q 4) (Q 5) (Q 6) (Q 7) (Q 8) (Q 9) (Q 11) (Q 12) (gM nw (fun j => if Q 14 j = nI rr then 3 else Q 13 j) (Q 13)) ca (upd sv rr (nI day)) rl))) _ := hP
                    have hD : va_D A (sW si fa ob op oc ow cI cW cO (Q 0) nb nq nr (sRf ad 0 nb) (sRf ad 1 nq) (sRf ad 2 nr) (sRf ad 3 nw) (nI nw) (nI day) (co + (gS (fun j => if Q 14 j = nI rr then gWorth (Q 11 j) (Q 10 j) (Q 13 j) (Q 12 j) else 0) nw 0 0)) ++ ((ts ++ gG a cI cZ (gShip Q rr nw) T nb nq nw nr day nbt nqt nwt dayt (co + gS (fun j => if Q 14 j = nI rr then gWorth (Q 11 j) (Q 10 j) (Q 13 j) (Q 12 j) else 0) nw 0 0) ca (upd bo rr (nI (day + 4)))) ++ sPl nb nq nr nw ad (sEn cI (Q 1) (Q 2) (Q 3) (Q 4) (Q 5) (Q 6) (Q 7) (Q 8) (Q 9) (Q 11) (Q 12) (gM nw (fun j => if Q 14 j = nI rr then 3 else Q 13 j) (Q 13)) ca (upd sv rr (nI day)) rl))) := hD
                    subst hw
                    refine lv_iload hx hb dL_act_724 (lv_at hl 1 rfl) ?_
                    refine lv_icmp_ne (tgt := 733) hx hb dL_act_726 (by decide) (fun c_73 => (by first | exact absurd c_73 (rfl : gS (fun j => if Q 14 j = nI rr then gWorth (Q 11 j) (Q 10 j) (Q 13 j) (Q 12 j) else 0) nw 0 0 = gS (fun j => if Q 14 j = nI rr then gWorth (Q 11 j) (Q 10 j) (Q 13 j) (Q 12 j) else 0) nw 0 0) | exact absurd (rfl : gS (fun j => if Q 14 j = nI rr then gWorth (Q 11 j) (Q 10 j) (Q 13 j) (Q 12 j) else 0) nw 0 0 = gS (fun j => if Q 14 j = nI rr then gWorth (Q 11 j) (Q 10 j) (Q 13 j) (Q 12 j) else 0) nw 0 0) c_73)) (fun c_73 => ?_)
                    refine lv_iconst (v := 1) hx hb dL_act_729 (by decide) ?_
                    refine lv_goto (tgt := 734) hx hb dL_act_730 (by decide) ?_
                    refine W.widen (k := 2) (n := 12) (by omega) (by omega) ?_
                    exact W.zret (v := 1) hx hb hr rfl (fun t ht hW => ⟨⟨_, (), rfl, rfl, (⟨ob, op, oc, ad, gShip Q rr nw, nb, nq, nr, co + gS (fun j => if Q 14 j = nI rr then gWorth (Q 11 j) (Q 10 j) (Q 13 j) (Q 12 j) else 0) nw 0 0, ca, upd bo rr (nI (day + 4)), upd sv rr (nI day), rl, gw_hh ht hP, hD, hI.ship hrn, hX.ship hrn hnr _, aChk_ship hX (by omega), Nat.le_refl _⟩)⟩, hS.F ht⟩) hS.2.2 dL_act_734
                  · skip
                    have hi : i3 < nw := gw_lt (by omega) (by omega) c
                    obtain ⟨k, rfl⟩ : ∃ k2, k = k2 + 1 := ⟨k - 1, by omega⟩
                    refine lv_aload_n hx hb dL_act_640 rfl (lv_at hl 7 rfl) ?_
                    refine va_get (D := D) (ci := 6) (v := .ref ow) (C := RX6) (T := TX6) (N := 8) hx hb hts wc_L_act_X6 hown hK hP 0 rfl rfl 4 (by decide) (hts _ wd_L_act_5) (fun _ h9 => h9) rfl dL_act_641 ?_
                    refine lv_iload hx hb dL_act_644 (lv_at hl 0 rfl) ?_
                    refine gw_aldW hx hb hK hP 5 2 (k := i3) (v := ad (3, i3)) rfl rfl (sRf_at (by first | assumption | omega)) (Nat.lt_of_lt_of_le (by first | assumption | omega) (by omega)) (by omega) dL_act_646 ?_
                    refine lv_astore (lv' := [(15, .ref (ad (3, i3))), (14, .int (nI i3)), (13, .int acc), (6, .int (nI rr)), (5, .int (nI nr)), (4, .int (nI nq)), (3, .int (nI nb)), (0, .ref (a 0)), (1, .ref si), (2, .int x), (7, wv)]) hx hb dL_act_647 hl (by decide) rfl (fun ls hl => ?_)
                    refine lv_aload hx hb dL_act_649 (lv_at hl 0 rfl) ?_
                    obtain ⟨i_74, hi_74, si_74⟩ := sAt3 (k := i3) hP (by first | assumption | omega)
                    refine va_get (D := D) (ci := 7) (v := .int (gM i3 (fun j => if Q 14 j = nI rr then 3 else Q 13 j) (Q 13) i3)) (C := RX7) (T := TX7) (N := 5) hx hb hts wc_L_act_X7 hown hK hP i_74 hi_74 rfl 3 (by decide) (hts _ wd_L_act_9) (fun _ h9 => h9) rfl dL_act_651 ?_
                    refine gw_top (y := Q 13 i3) (gM_at (Nat.le_refl _)) ?_
                    refine lv_iconst (v := 2) hx hb dL_act_654 (by decide) ?_
                    refine lv_icmp_ne (tgt := 688) hx hb dL_act_655 (by decide) (fun m1 => ?_) (fun m1 => ?_)
                    · skip
                      refine lv_iinc (v := nI (i3 + 1)) (lv' := [(14, .int (nI (i3 + 1))), (15, .ref (ad (3, i3))), (13, .int acc), (6, .int (nI rr)), (5, .int (nI nr)), (4, .int (nI nq)), (3, .int (nI nb)), (0, .ref (a 0)), (1, .ref si), (2, .int x), (7, wv)]) hx hb dL_act_688 hl (k := 1) rfl (nI_add i3 1) (by decide) rfl (fun ls hl => ?_)
                      refine lv_goto (tgt := 631) hx hb dL_act_691 (by decide) ?_
                      have hq4 : ¬ Q 14 i3 = nI rr := by first | exact sk_no1 hX (by omega) hi m1 | exact sk_no2 hX (by omega) hi m2
                      rw [gM_k (i := i3) (F := (fun j => if Q 14 j = nI rr then 3 else Q 13 j)) (f := Q 13) (if_neg hq4)] at hP hD
                      exact ih631 (k, i3 + 1, acc) H locs ls (by dsimp only; omega) ⟨hP, hD, hS, lv_sub hl [0, 2, 3, 4, 5, 6, 7, 8, 9, 10] rfl, (by omega), (by rw [← hFs]; show gS _ k (i3 + 1) _ = gS _ k (i3 + 1) (acc + (if Q 14 i3 = nI rr then _ else _)); rw [if_neg hq4, Int32.add_zero])⟩
                    · skip
                      refine lv_aload hx hb dL_act_658 (lv_at hl 0 rfl) ?_
                      obtain ⟨i_76, hi_76, si_76⟩ := sAt3 (k := i3) hP (by first | assumption | omega)
                      refine va_get (D := D) (ci := 7) (v := .int (rl i3)) (C := RX7) (T := TX7) (N := 5) hx hb hts wc_L_act_X7 hown hK hP i_76 hi_76 rfl 4 (by decide) (hts _ wd_L_act_16) (fun _ h9 => h9) rfl dL_act_660 ?_
                      refine lv_iload hx hb dL_act_663 (lv_at hl 3 rfl) ?_
                      refine lv_icmp_eq (tgt := 671) hx hb dL_act_665 (by decide) (fun m2 => ?_) (fun m2 => ?_)
                      · skip
                        obtain ⟨b, hbb, hb9, hb10⟩ := hI.hwh.1 i3 hi
                        refine lv_iload hx hb dL_act_671 (lv_at hl 2 rfl) ?_
                        refine lv_aload_n hx hb dL_act_673 rfl (lv_at hl 8 rfl) ?_
                        refine lv_aload hx hb dL_act_674 (lv_at hl 0 rfl) ?_
                        refine va_calli (va_runV (As := [.ref (ad (3, i3))]) (rest := [.int acc]) ⟨hx, hb, hml, hown, hts⟩ (met_X6_worth l D cI cZ cW cO si fa ob op oc ow ad nb nq nr nw day co (Q 0) (Q 1) (Q 2) (Q 3) (Q 4) (Q 5) (Q 6) (Q 7) (Q 8) (Q 9) (Q 11) (Q 12) (gM i3 (fun j => if Q 14 j = nI rr then 3 else Q 13 j) (Q 13)) ca sv rl (ts ++ gG a cI cZ Q T nb nq nw nr day nbt nqt nwt dayt co ca bo) i3 b hi hbb (by first | assumption | omega) hb9 (by rw [gM_at (Nat.le_refl _)]; exact (hX.e13 i3 hi).1)) (cwV 1 hts gL_act_X6_worth rfl rfl rfl (by decide +kernel) ⟨Nat.le_of_ble_eq_true rfl, Nat.le_of_ble_eq_true rfl⟩) (gv_pvr hK hP 6 rfl rfl rfl) rfl rfl hl.1 rfl (lv_room (Nat.le_of_ble_eq_true rfl)) dL_act_676 ⟨(by show _ ≤ 2; omega), (by show _ ≤ 12; omega)⟩) hS (fun _ _ z => z.elim) (fun _ z => z.elim) (fun r_78 _ t H1 locs ht hvm hw hB hz1 hk1 hS => ?_)
                        have hP := gw_ro hP hk1
                        generalize H1 = H at hP hS ⊢
                        subst hw
                        refine gw_top (y := gWorth (Q 11 i3) (Q 10 i3) (Q 13 i3) (Q 12 i3)) (by rw [gM_at (Nat.le_refl _), hb10]) ?_
                        refine lv_iadd hx hb dL_act_679 ?_
                        refine lv_istore (lv' := [(13, .int (acc + (gWorth (Q 11 i3) (Q 10 i3) (Q 13 i3) (Q 12 i3)))), (15, .ref (ad (3, i3))), (14, .int (nI i3)), (6, .int (nI rr)), (5, .int (nI nr)), (4, .int (nI nq)), (3, .int (nI nb)), (0, .ref (a 0)), (1, .ref si), (2, .int x), (7, wv)]) hx hb dL_act_680 hl (by decide) rfl (fun ls hl => ?_)
                        refine lv_aload hx hb dL_act_682 (lv_at hl 1 rfl) ?_
                        refine lv_iconst (v := 3) hx hb dL_act_684 (by decide) ?_
                        obtain ⟨i_79, hi_79, si_79⟩ := sAt3 (k := i3) hP (by first | assumption | omega)
                        refine va_put (D := D) (ci := 7) (v := .int 3) (ty := .int) (C := RX7) (T := TX7) (N := 5) hx hb hts wc_L_act_X7 tyX7 tyX7_ok nmX7 hown hK hP hD hS i_79 hi_79 rfl 3 (by decide) (hts _ wd_L_act_9) (fun _ h9 => h9) rfl (by decide +kernel) rfl rfl (Nat.le_of_ble_eq_true rfl) dL_act_685 (fun H locs hP hD hS => ?_)
                        rw [si_79] at hP hD
                        simp only [List.set_cons_succ, List.set_cons_zero] at hP hD
                        rw [sU3_3] at hP hD
                        have hP : va_P D vwCl (sW si fa ob op oc ow cI cW cO (Q 0) nb nq nr (sRf ad 0 nb) (sRf ad 1 nq) (sRf ad 2 nr) (sRf ad 3 nw) (nI nw) (nI day) co ++ ((ts ++ gG a cI cZ Q T nb nq nw nr day nbt nqt nwt dayt co ca bo) ++ sPl nb nq nr nw ad (sEn cI (Q 1) (Q 2) (Q 3) (Q 4) (Q 5) (Q 6) (Q 7) (Q 8) (Q 9) (Q 11) (Q 12) (upd (gM i3 (fun j => if Q 14 j = nI rr then 3 else Q 13 j) (Q 13)) i3 3) ca sv rl))) _ := hP
                        have hD : va_D A (sW si fa ob op oc ow cI cW cO (Q 0) nb nq nr (sRf ad 0 nb) (sRf ad 1 nq) (sRf ad 2 nr) (sRf ad 3 nw) (nI nw) (nI day) co ++ ((ts ++ gG a cI cZ Q T nb nq nw nr day nbt nqt nwt dayt co ca bo) ++ sPl nb nq nr nw ad (sEn cI (Q 1) (Q 2) (Q 3) (Q 4) (Q 5) (Q 6) (Q 7) (Q 8) (Q 9) (Q 11) (Q 12) (upd (gM i3 (fun j => if Q 14 j = nI rr then 3 else Q 13 j) (Q 13)) i3 3) ca sv rl))) := hD
                        refine lv_iinc (v := nI (i3 + 1)) (lv' := [(14, .int (nI (i3 + 1))), (13, .int (acc + (gWorth (Q 11 i3) (Q 10 i3) (Q 13 i3) (Q 12 i3)))), (15, .ref (ad (3, i3))), (6, .int (nI rr)), (5, .int (nI nr)), (4, .int (nI nq)), (3, .int (nI nb)), (0, .ref (a 0)), (1, .ref si), (2, .int x), (7, wv)]) hx hb dL_act_688 hl (k := 2) rfl (nI_add i3 1) (by decide) rfl (fun ls hl => ?_)
                        refine lv_goto (tgt := 631) hx hb dL_act_691 (by decide) ?_
                        have hq4 : Q 14 i3 = nI rr := sk_yes hX hi m1 m2
                        rw [gM_s (v := 3) (if_pos hq4).symm] at hP hD
                        exact ih631 (k, i3 + 1, acc + (gWorth (Q 11 i3) (Q 10 i3) (Q 13 i3) (Q 12 i3))) H locs ls (by dsimp only; omega) ⟨hP, hD, hS, lv_sub hl [0, 1, 3, 4, 5, 6, 7, 8, 9, 10] rfl, (by omega), (by rw [← hFs]; show gS _ k (i3 + 1) _ = gS _ k (i3 + 1) (acc + (if Q 14 i3 = nI rr then _ else _)); rw [if_pos hq4])⟩
                      · skip
                        refine lv_goto (tgt := 688) hx hb dL_act_668 (by decide) ?_
                        refine lv_iinc (v := nI (i3 + 1)) (lv' := [(14, .int (nI (i3 + 1))), (15, .ref (ad (3, i3))), (13, .int acc), (6, .int (nI rr)), (5, .int (nI nr)), (4, .int (nI nq)), (3, .int (nI nb)), (0, .ref (a 0)), (1, .ref si), (2, .int x), (7, wv)]) hx hb dL_act_688 hl (k := 1) rfl (nI_add i3 1) (by decide) rfl (fun ls hl => ?_)
                        refine lv_goto (tgt := 631) hx hb dL_act_691 (by decide) ?_
                        have hq4 : ¬ Q 14 i3 = nI rr := by first | exact sk_no1 hX (by omega) hi m1 | exact sk_no2 hX (by omega) hi m2
                        rw [gM_k (i := i3) (F := (fun j => if Q 14 j = nI rr then 3 else Q 13 j)) (f := Q 13) (if_neg hq4)] at hP hD
                        exact ih631 (k, i3 + 1, acc) H locs ls (by dsimp only; omega) ⟨hP, hD, hS, lv_sub hl [0, 2, 3, 4, 5, 6, 7, 8, 9, 10] rfl, (by omega), (by rw [← hFs]; show gS _ k (i3 + 1) _ = gS _ k (i3 + 1) (acc + (if Q 14 i3 = nI rr then _ else _)); rw [if_neg hq4, Int32.add_zero])⟩
                · skip
                  refine lv_iconst (v := 1) hx hb dL_act_623 (by decide) ?_
                  refine W.widen (k := 2) (n := 12) (by omega) (by omega) ?_
                  exact W.zret (v := 1) hx hb hr rfl (fun t ht hW => ⟨⟨_, (), rfl, rfl, (⟨ob, op, oc, ad, Q, nb, nq, nr, co, ca, bo, sv, rl, gw_hh ht hP, hD, hI, hX, aChk_same rfl rfl rfl, Nat.le_refl _⟩)⟩, hS.F ht⟩) hS.2.2 dL_act_624
      · skip
        rintro - H locs ls ⟨hP, hD, hS, hl, -⟩
        have hP : va_P D vwCl (sW si fa ob op oc ow cI cW cO (Q 0) nb nq nr (sRf ad 0 nb) (sRf ad 1 nq) (sRf ad 2 nr) (sRf ad 3 nw) (nI nw) (nI day) co ++ ((ts ++ gG a cI cZ Q T nb nq nw nr day nbt nqt nwt dayt co ca bo) ++ sPl nb nq nr nw ad (sEn cI (Q 1) (Q 2) (Q 3) (Q 4) (Q 5) (Q 6) (Q 7) (Q 8) (Q 9) (Q 11) (Q 12) (Q 13) ca sv rl))) H := hP
        have hD : va_D A (sW si fa ob op oc ow cI cW cO (Q 0) nb nq nr (sRf ad 0 nb) (sRf ad 1 nq) (sRf ad 2 nr) (sRf ad 3 nw) (nI nw) (nI day) co ++ ((ts ++ gG a cI cZ Q T nb nq nw nr day nbt nqt nwt dayt co ca bo) ++ sPl nb nq nr nw ad (sEn cI (Q 1) (Q 2) (Q 3) (Q 4) (Q 5) (Q 6) (Q 7) (Q 8) (Q 9) (Q 11) (Q 12) (Q 13) ca sv rl))) := hD
        have hl : lv_has ls 16 [(6, .int (nI rr)), (5, .int (nI nr)), (4, .int (nI nq)), (3, .int (nI nb)), (0, .ref (a 0)), (1, .ref si), (2, .int x), (7, wv)] := hl
        refine lv_iload hx hb dL_act_423 (lv_at hl 2 rfl) ?_
        refine lv_if_ne (tgt := 430) hx hb dL_act_425 (by decide) (fun q0 => ?_) (fun q0 => ?_)
        · skip
          have hq0 : 0 < nq := Nat.pos_of_ne_zero (fun e9 => q0 (by rw [e9]; rfl))
          refine lv_aload_n hx hb dL_act_430 rfl (lv_at hl 5 rfl) ?_
          refine va_get (D := D) (ci := 6) (v := .ref op) (C := RX6) (T := TX6) (N := 8) hx hb hts wc_L_act_X6 hown hK hP 0 rfl rfl 2 (by decide) (hts _ wd_L_act_2) (fun _ h9 => h9) rfl dL_act_431 ?_
          refine lv_iload_n hx hb dL_act_434 rfl (lv_at hl 6 rfl) ?_
          refine lv_iload hx hb dL_act_435 (lv_at hl 2 rfl) ?_
          refine va_calli (va_runS (As := [.int x, .int (nI nq)]) (rest := [.ref op]) ⟨hx, hb, hml, hown, hts⟩ (met_L_below l D cI cZ cW cO x nq hq0 (by first | assumption | omega)) (va_cwS 2 hts gL_act_L_below rfl rfl rfl (by decide +kernel) ⟨Nat.le_of_ble_eq_true rfl, Nat.le_of_ble_eq_true rfl⟩) (gv_psr hK (wc := []) (fun _ _ h9 => by cases h9)) rfl rfl hl.1 rfl (lv_room (Nat.le_of_ble_eq_true rfl)) dL_act_437 ⟨(by show _ ≤ 2; omega), (by show _ ≤ 12; omega)⟩) hS (fun _ _ z => z.elim) (fun _ z => z.elim) (fun r_81 _ t H1 locs ht hvm hw hB hz1 hk1 hS => ?_)
          have hP := gw_ro hP hk1
          generalize H1 = H at hP hS ⊢
          subst hw
          refine gw_aldA hx hb hK hP 3 3 (k := bw x nq) (v := ad (1, bw x nq)) rfl rfl (sRf_at (bw_lt hq0)) (bw_lt hq0) (by omega) dL_act_440 ?_
          refine lv_astore (lv' := [(10, .ref (ad (1, bw x nq))), (6, .int (nI rr)), (5, .int (nI nr)), (4, .int (nI nq)), (3, .int (nI nb)), (0, .ref (a 0)), (1, .ref si), (2, .int x), (7, wv)]) hx hb dL_act_441 hl (by decide) rfl (fun ls hl => ?_)
          refine lv_aload hx hb dL_act_443 (lv_at hl 0 rfl) ?_
          refine lv_iconst (v := 1) hx hb dL_act_445 (by decide) ?_
          obtain ⟨i_82, hi_82, si_82⟩ := sAt1 (k := bw x nq) hP (bw_lt hq0)
          refine gw_top (y := nI 1) rfl ?_
          refine gw_iald hx hb hK hP i_82 0 (k := 1) hi_82 rfl (by first | decide | omega) (by decide) dL_act_446 ?_
          refine gw_top (y := Q 6 (bw x nq)) rfl ?_
          refine lv_istore (lv' := [(11, .int (Q 6 (bw x nq))), (10, .ref (ad (1, bw x nq))), (6, .int (nI rr)), (5, .int (nI nr)), (4, .int (nI nq)), (3, .int (nI nb)), (0, .ref (a 0)), (1, .ref si), (2, .int x), (7, wv)]) hx hb dL_act_447 hl (by decide) rfl (fun ls hl => ?_)
          refine lv_aload hx hb dL_act_449 (lv_at hl 1 rfl) ?_
          refine lv_iconst (v := 1) hx hb dL_act_451 (by decide) ?_
          refine lv_iload_n hx hb dL_act_452 rfl (lv_at hl 8 rfl) ?_
          refine lv_iconst (v := 4) hx hb dL_act_453 (by decide) ?_
          refine lv_ishr hx hb dL_act_454 ?_
          refine lv_iload_n hx hb dL_act_455 rfl (lv_at hl 5 rfl) ?_
          refine lv_iconst (v := 1) hx hb dL_act_456 (by decide) ?_
          refine lv_iadd hx hb dL_act_457 ?_
          refine gw_top (y := nI (nb + 1)) (nI_add nb 1) ?_
          refine va_calli (va_runS (As := [.int (x >>> (4 &&& 31)), .int (nI (nb + 1))]) (rest := [.int 1, .ref (ad (1, bw x nq))]) ⟨hx, hb, hml, hown, hts⟩ (met_L_below l D cI cZ cW cO (x >>> (4 &&& 31)) (nb + 1) (by first | assumption | omega) (by first | assumption | omega)) (va_cwS 2 hts gL_act_L_below rfl rfl rfl (by decide +kernel) ⟨Nat.le_of_ble_eq_true rfl, Nat.le_of_ble_eq_true rfl⟩) (gv_psr hK (wc := []) (fun _ _ h9 => by cases h9)) rfl rfl hl.1 rfl (lv_room (Nat.le_of_ble_eq_true rfl)) dL_act_458 ⟨(by show _ ≤ 2; omega), (by show _ ≤ 12; omega)⟩) hS (fun _ _ z => z.elim) (fun _ z => z.elim) (fun r_83 _ t H1 locs ht hvm hw hB hz1 hk1 hS => ?_)
          have hP := gw_ro hP hk1
          generalize H1 = H at hP hS ⊢
          subst hw
          refine lv_iconst (v := 1) hx hb dL_act_461 (by decide) ?_
          refine lv_isub hx hb dL_act_462 ?_
          obtain ⟨i_84, hi_84, si_84⟩ := sAt1 (k := bw x nq) hP (bw_lt hq0)
          refine gw_top2 (y := nI 1) rfl ?_
          refine gw_iast hx hb hK hP hD hS i_84 0 (k := 1) hi_84 rfl (by first | decide | omega) (by decide) dL_act_463 (fun H locs hP hD hS => ?_)
          rw [si_84, sU1_1] at hP hD
          have hP : va_P D vwCl (sW si fa ob op oc ow cI cW cO (Q 0) nb nq nr (sRf ad 0 nb) (sRf ad 1 nq) (sRf ad 2 nr) (sRf ad 3 nw) (nI nw) (nI day) co ++ ((ts ++ gG a cI cZ Q T nb nq nw nr day nbt nqt nwt dayt co ca bo) ++ sPl nb nq nr nw ad (sEn cI (Q 1) (Q 2) (Q 3) (Q 4) (Q 5) (upd (Q 6) (bw x nq) ((nI (bw (x >>> (4 &&& 31)) (nb + 1))) - 1)) (Q 7) (Q 8) (Q 9) (Q 11) (Q 12) (Q 13) ca sv rl))) _ := hP
          have hD : va_D A (sW si fa ob op oc ow cI cW cO (Q 0) nb nq nr (sRf ad 0 nb) (sRf ad 1 nq) (sRf ad 2 nr) (sRf ad 3 nw) (nI nw) (nI day) co ++ ((ts ++ gG a cI cZ Q T nb nq nw nr day nbt nqt nwt dayt co ca bo) ++ sPl nb nq nr nw ad (sEn cI (Q 1) (Q 2) (Q 3) (Q 4) (Q 5) (upd (Q 6) (bw x nq) ((nI (bw (x >>> (4 &&& 31)) (nb + 1))) - 1)) (Q 7) (Q 8) (Q 9) (Q 11) (Q 12) (Q 13) ca sv rl))) := hD
          refine lv_aload_n hx hb dL_act_464 rfl (lv_at hl 6 rfl) ?_
          refine lv_iload_n hx hb dL_act_465 rfl (lv_at hl 8 rfl) ?_
          refine lv_iload hx hb dL_act_466 (lv_at hl 4 rfl) ?_
          refine va_calli (va_runS (As := [.int x, .int (nI nq)]) (rest := [.ref (a 0)]) ⟨hx, hb, hml, hown, hts⟩ (met_L_below l D cI cZ cW cO x nq hq0 (by first | assumption | omega)) (va_cwS 2 hts gL_act_L_below rfl rfl rfl (by decide +kernel) ⟨Nat.le_of_ble_eq_true rfl, Nat.le_of_ble_eq_true rfl⟩) (gv_psr hK (wc := []) (fun _ _ h9 => by cases h9)) rfl rfl hl.1 rfl (lv_room (Nat.le_of_ble_eq_true rfl)) dL_act_468 ⟨(by show _ ≤ 2; omega), (by show _ ≤ 12; omega)⟩) hS (fun _ _ z => z.elim) (fun _ z => z.elim) (fun r_85 _ t H1 locs ht hvm hw hB hz1 hk1 hS => ?_)
          have hP := gw_ro hP hk1
          generalize H1 = H at hP hS ⊢
          subst hw
          refine lv_aload hx hb dL_act_471 (lv_at hl 1 rfl) ?_
          refine lv_iconst (v := 1) hx hb dL_act_473 (by decide) ?_
          obtain ⟨i_86, hi_86, si_86⟩ := sAt1 (k := bw x nq) hP (bw_lt hq0)
          refine gw_top (y := nI 1) rfl ?_
          refine gw_iald hx hb hK hP i_86 0 (k := 1) hi_86 rfl (by first | decide | omega) (by decide) dL_act_474 ?_
          refine gw_top (y := upd (Q 6) (bw x nq) ((nI (bw (x >>> (4 &&& 31)) (nb + 1))) - 1) (bw x nq)) rfl ?_
          refine gw_top (y := nI (bw (x >>> (4 &&& 31)) (nb + 1)) - 1) upd_at ?_
          refine va_calli (va_runV (As := [.int (nI (bw x nq)), .int (nI (bw (x >>> (4 &&& 31)) (nb + 1)) - 1)]) (rest := []) ⟨hx, hb, hml, hown, hts⟩ (met_W_send l D cI cZ cW cO a Q T nb nq nw nr day nbt nqt nwt dayt co ca bo (bw x nq) (nI (bw (x >>> (4 &&& 31)) (nb + 1)) - 1) (bw_lt hq0) (by first | assumption | omega) (by first | assumption | omega) (sx_send (bw_lt (by omega)))) (cwV 2 hts gL_act_X5_send rfl rfl rfl (by decide +kernel) ⟨Nat.le_of_ble_eq_true rfl, Nat.le_of_ble_eq_true rfl⟩) (gv_pvw hK (gP_G hP) (gD_G hD) 5 rfl rfl rfl) rfl rfl hl.1 rfl (lv_room (Nat.le_of_ble_eq_true rfl)) dL_act_475 ⟨(by show _ ≤ 2; omega), (by show _ ≤ 12; omega)⟩) hS (fun q _ h => gA_G hD q h) (gA_G hD) (fun r_87 _ t H1 locs ht hvm hw hB hz1 hk1 hS => ?_)
          have hB : va_P D vwCl (gG a cI cZ (pk Q 6 (upd (Q 6) (bw x nq) (nI (bw (x >>> (4 &&& 31)) (nb + 1)) - 1))) T nb nq nw nr day nbt nqt nwt dayt co ca bo) t.heap := hB
          rw [ht] at hB
          obtain ⟨hP, hD⟩ := gPD_G (G' := gG a cI cZ (pk Q 6 (upd (Q 6) (bw x nq) (nI (bw (x >>> (4 &&& 31)) (nb + 1)) - 1))) T nb nq nw nr day nbt nqt nwt dayt co ca bo) hP hD rfl hk1 hB
          generalize H1 = H at hP hS ⊢
          have hP : va_P D vwCl (sW si fa ob op oc ow cI cW cO (Q 0) nb nq nr (sRf ad 0 nb) (sRf ad 1 nq) (sRf ad 2 nr) (sRf ad 3 nw) (nI nw) (nI day) co ++ ((ts ++ gG a cI cZ (pk Q 6 (upd (Q 6) (bw x nq) (nI (bw (x >>> (4 &&& 31)) (nb + 1)) - 1))) T nb nq nw nr day nbt nqt nwt dayt co ca bo) ++ sPl nb nq nr nw ad (sEn cI (Q 1) (Q 2) (Q 3) (Q 4) (Q 5) (upd (Q 6) (bw x nq) ((nI (bw (x >>> (4 &&& 31)) (nb + 1))) - 1)) (Q 7) (Q 8) (Q 9) (Q 11) (Q 12) (Q 13) ca sv rl))) _ := hP
          have hD : va_D A (sW si fa ob op oc ow cI cW cO (Q 0) nb nq nr (sRf ad 0 nb) (sRf ad 1 nq) (sRf ad 2 nr) (sRf ad 3 nw) (nI nw) (nI day) co ++ ((ts ++ gG a cI cZ (pk Q 6 (upd (Q 6) (bw x nq) (nI (bw (x >>> (4 &&& 31)) (nb + 1)) - 1))) T nb nq nw nr day nbt nqt nwt dayt co ca bo) ++ sPl nb nq nr nw ad (sEn cI (Q 1) (Q 2) (Q 3) (Q 4) (Q 5) (upd (Q 6) (bw x nq) ((nI (bw (x >>> (4 &&& 31)) (nb + 1))) - 1)) (Q 7) (Q 8) (Q 9) (Q 11) (Q 12) (Q 13) ca sv rl))) := hD
          subst hw
          refine lv_iload hx hb dL_act_478 (lv_at hl 0 rfl) ?_
          refine lv_icmp_ne (tgt := 487) hx hb dL_act_480 (by decide) (fun c_88 => (by first | exact absurd c_88 (rfl : Q 6 (bw x nq) = Q 6 (bw x nq)) | exact absurd (rfl : Q 6 (bw x nq) = Q 6 (bw x nq)) c_88)) (fun c_88 => ?_)
          refine lv_iconst (v := 1) hx hb dL_act_483 (by decide) ?_
          refine lv_goto (tgt := 488) hx hb dL_act_484 (by decide) ?_
          refine W.widen (k := 2) (n := 12) (by omega) (by omega) ?_
          exact W.zret (v := 1) hx hb hr rfl (fun t ht hW => ⟨⟨_, (), rfl, rfl, (⟨ob, op, oc, ad, pk Q 6 (upd (Q 6) (bw x nq) (nI (bw (x >>> (4 &&& 31)) (nb + 1)) - 1)), nb, nq, nr, co, ca, bo, sv, rl, gw_hh ht hP, hD, hI.send _ (sx_send (bw_lt (by omega))), hX.send, aChk_same rfl rfl rfl, Nat.le_refl _⟩)⟩, hS.F ht⟩) hS.2.2 dL_act_488
        · skip
          refine lv_iconst (v := 1) hx hb dL_act_428 (by decide) ?_
          refine W.widen (k := 2) (n := 12) (by omega) (by omega) ?_
          exact W.zret (v := 1) hx hb hr rfl (fun t ht hW => ⟨⟨_, (), rfl, rfl, (⟨ob, op, oc, ad, Q, nb, nq, nr, co, ca, bo, sv, rl, gw_hh ht hP, hD, hI, hX, aChk_same rfl rfl rfl, Nat.le_refl _⟩)⟩, hS.F ht⟩) hS.2.2 dL_act_429
