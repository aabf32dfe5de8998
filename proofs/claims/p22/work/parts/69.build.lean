/-! The law's build. -/
theorem wc_L_build_X6 : ∀ w ∈ u_ws RX6 TX6 8, w ∈ wsL_build := by decide +kernel
theorem wd_L_build_1 : (.classLink RL 10 RX6 : Cond) ∈ wsL_build := by decide +kernel
theorem wd_L_build_2 : (.instantiable RX6 8 : Cond) ∈ wsL_build := by decide +kernel
theorem wd_L_build_3 : (.initialized RX6 : Cond) ∈ wsL_build := by decide +kernel
theorem wd_L_build_4 : (.instanceMethod yX6_init : Cond) ∈ wsL_build := by decide +kernel
set_option maxHeartbeats 4000000 in
set_option maxRecDepth 100000 in
theorem met_L_build (l : Launch) (D : va_G) (cI cZ cW cO : ClassId) (a : Nat → Nat) (T : Nat → Nat → Int32) (nbt nqt nwt dayt : Nat) (b L : Nat) (xs : Nat → Int32) (hL : L ≤ 260) (sz : Nat) : Met l yL_build wsL_build ({ frames := 6, cells := 2200, slots := 11000, locals := 136 }) (gPb [.ref (a 0), .ref b] D (gG a cI cZ gZero T 0 0 0 0 0 nbt nqt nwt dayt 0 (fun _ => 0) (fun _ => 0)) (sT cI cZ cW cO) sz b L xs) (va_Qr (fun (_ : Unit) => True) (fun (_ : Unit) si t => bOut D (va_A (gG a cI cZ gZero T 0 0 0 0 0 nbt nqt nwt dayt 0 (fun _ => 0) (fun _ => 0)) sz) cI cZ cW cO a T nbt nqt nwt dayt si t) (va_A (gG a cI cZ gZero T 0 0 0 0 0 nbt nqt nwt dayt 0 (fun _ => 0) (fun _ => 0)) sz)) 2200 11000 (va_A (gG a cI cZ gZero T 0 0 0 0 0 nbt nqt nwt dayt 0 (fun _ => 0) (fun _ => 0)) sz) := by
  refine Met.ofW (cc := cL_build) (maxL := 4) (ret := (some (.object "GritWheelsLaw$Sim"))) (by decide +kernel) rfl ?_
  intro p e s m args below meth c s₁ B hml hv
  obtain ⟨rfl, ⟨hsz, hP, hK, hD0, hR⟩, ⟨hXs, hbl⟩, hbw⟩ := hv
  have hx := B.exec
  have hb := B.bytes
  have hr := B.returns
  have hts := atoms_spec (ws := wsL_build) B.pre
  have hown : s.vm.findClass RL = some m.cls := findClass_of_methodNamed B.named
  have hlocks := B.notSynchronized
  subst hsz
  have hD := hD0.self (sz := s.heap.size)
  have hbA : ¬ va_A (gG a cI cZ gZero T 0 0 0 0 0 nbt nqt nwt dayt 0 (fun _ => 0) (fun _ => 0)) s.heap.size b := fun h => by rcases va_A_mem.mp h with h | h; exact hbw h; omega
  generalize hAe : va_A (gG a cI cZ gZero T 0 0 0 0 0 nbt nqt nwt dayt 0 (fun _ => 0) (fun _ => 0)) s.heap.size = A at hD hbA ⊢
  have hA : ∀ q : Nat, s.heap.size ≤ q → A q := fun q h => by rw [← hAe]; exact Or.inr h
  have hS : va_S A s.heap s.heap [] := va_S.rf
  have hl := lv_entry ([.ref (a 0), .ref b]) (n := 4) (Nat.le_of_ble_eq_true rfl)
  rw [lg_entry_eq]
  generalize (lg_sl ([.ref (a 0), .ref b]) ++ List.replicate (4 - (lg_sl ([.ref (a 0), .ref b])).length) Slot.unset).toArray = ls at hl ⊢
  have hl : lv_has ls 4 [(0, .ref (a 0)), (1, .ref b)] := hl
  refine va_new (ci := 6) (fs := [.null, .null, .null, .null, .null, .int 0, .int 0, .int 0]) (C := RX6) (T := TX6) (N := 8) hx hb hts wc_L_build_X6 tyX6 tyX6_ok hown (hts _ wd_L_build_1) (hts _ wd_L_build_2) (hts _ wd_L_build_3) hK hP hD hS hA rfl (fun j hj => by rcases (show j = 0 ∨ j = 1 ∨ j = 2 ∨ j = 3 ∨ j = 4 ∨ j = 5 ∨ j = 6 ∨ j = 7 by omega) with rfl | rfl | rfl | rfl | rfl | rfl | rfl | rfl <;> rfl) (Nat.le_of_ble_eq_true rfl) (Nat.le_of_ble_eq_true rfl) dL_build_0 (fun si H hP hD hS => ?_)
  have hP : va_P D vwCl ((gG a cI cZ gZero T 0 0 0 0 0 nbt nqt nwt dayt 0 (fun _ => 0) (fun _ => 0)) ++ [(si, .inr (6, [.null, .null, .null, .null, .null, .int 0, .int 0, .int 0]))]) H := hP
  have hD : va_D A ((gG a cI cZ gZero T 0 0 0 0 0 nbt nqt nwt dayt 0 (fun _ => 0) (fun _ => 0)) ++ [(si, .inr (6, [.null, .null, .null, .null, .null, .int 0, .int 0, .int 0]))]) := hD
  obtain ⟨hP, hD⟩ := gPD_perm (ws' := [(si, .inr (6, [.null, .null, .null, .null, .null, .int 0, .int 0, .int 0]))] ++ (gG a cI cZ gZero T 0 0 0 0 0 nbt nqt nwt dayt 0 (fun _ => 0) (fun _ => 0))) List.perm_append_comm hP hD
  refine W.widen (k := 1) (n := 8) (by omega) (by omega) ?_
  refine lv_dup hx hb dL_build_3 rfl ?_
  have hPc : va_P D vwCl [(si, .inr (6, [.null, .null, .null, .null, .null, .int 0, .int 0, .int 0]))] H := gP_mem.mpr (fun q h9 => gP_mem.mp hP q (List.mem_append_left _ h9))
  have hDc : va_D A [(si, .inr (6, [.null, .null, .null, .null, .null, .int 0, .int 0, .int 0]))] := (gPD_sub (List.sublist_append_left _ _) hP hD).2
  have hFc := gv_free hDc hS hA
  refine va_callv (va_runIN (As := []) (rest := [.ref si]) ⟨hx, hb, hml, hown, hts⟩ (met_X6_init l D cI cZ cW cO si H.size) ⟨va_cnB 0 hts gL_build_X6_init_n110 rfl rfl rfl hR.2.2.2 (hts _ wd_L_build_3) (by decide +kernel) ⟨Nat.le_of_ble_eq_true rfl, Nat.le_of_ble_eq_true rfl⟩, rfl, (hts _ wd_L_build_4)⟩ (gv_pss hK hR hPc hDc) rfl rfl hl.1 rfl (lv_room (Nat.le_of_ble_eq_true rfl)) dL_build_4 ⟨(by show _ ≤ 2200; omega), (by show _ ≤ 11000; omega)⟩) hS (fun q _ h => hFc q h) hFc (fun u_ t H1 locs ht hvm hw hB hz1 hk1 hS => ?_)
  obtain ⟨fa, ob, op, oc, ow⟩ := u_
  have hP1 : va_P D vwCl [(si, .inr (6, [.ref fa, .ref ob, .ref op, .ref oc, .ref ow, .int 0, .int 0, .int 0])), (fa, .inl (cI, 9, .inl (gZero 0))), (ob, .inl (cO, 0, .inr (.inr (.inr (.inr (fun _ => none)))))), (op, .inl (cO, 0, .inr (.inr (.inr (.inr (fun _ => none)))))), (oc, .inl (cO, 0, .inr (.inr (.inr (.inr (fun _ => none)))))), (ow, .inl (cW, 60, .inr (.inr (.inr (.inr (fun _ => none))))))] t.heap := hB.1
  have hD1 : va_D (va_A [(si, .inr (6, [.null, .null, .null, .null, .null, .int 0, .int 0, .int 0]))] H.size) [(si, .inr (6, [.ref fa, .ref ob, .ref op, .ref oc, .ref ow, .int 0, .int 0, .int 0])), (fa, .inl (cI, 9, .inl (gZero 0))), (ob, .inl (cO, 0, .inr (.inr (.inr (.inr (fun _ => none)))))), (op, .inl (cO, 0, .inr (.inr (.inr (.inr (fun _ => none)))))), (oc, .inl (cO, 0, .inr (.inr (.inr (.inr (fun _ => none)))))), (ow, .inl (cW, 60, .inr (.inr (.inr (.inr (fun _ => none))))))] := hB.2
  rw [ht] at hP1
  obtain ⟨hP, hD⟩ := gv_join hP hD hk1 hFc hP1 hD1
  rw [lb_start] at hP hD
  generalize H1 = H at hP hS ⊢
  have hP : va_P D vwCl (sW si fa ob op oc ow cI cW cO (gZero 0) 0 0 0 (sRf (fun _ => 0) 0 0) (sRf (fun _ => 0) 1 0) (sRf (fun _ => 0) 2 0) (sRf (fun _ => 0) 3 0) (nI 0) (nI 0) 0 ++ (([] ++ gG a cI cZ gZero T 0 0 0 0 0 nbt nqt nwt dayt 0 (fun _ => 0) (fun _ => 0)) ++ sPl 0 0 0 0 (fun _ => 0) (sEn cI (gZero 1) (gZero 2) (gZero 3) (gZero 4) (gZero 5) (gZero 6) (gZero 7) (gZero 8) (gZero 9) (gZero 11) (gZero 12) (gZero 13) (fun _ => 0) (fun _ => 0) (fun _ => 0)))) _ := hP
  have hD : va_D A (sW si fa ob op oc ow cI cW cO (gZero 0) 0 0 0 (sRf (fun _ => 0) 0 0) (sRf (fun _ => 0) 1 0) (sRf (fun _ => 0) 2 0) (sRf (fun _ => 0) 3 0) (nI 0) (nI 0) 0 ++ (([] ++ gG a cI cZ gZero T 0 0 0 0 0 nbt nqt nwt dayt 0 (fun _ => 0) (fun _ => 0)) ++ sPl 0 0 0 0 (fun _ => 0) (sEn cI (gZero 1) (gZero 2) (gZero 3) (gZero 4) (gZero 5) (gZero 6) (gZero 7) (gZero 8) (gZero 9) (gZero 11) (gZero 12) (gZero 13) (fun _ => 0) (fun _ => 0) (fun _ => 0)))) := hD
  refine W.widen (k := 6) (n := 77) (by omega) (by omega) ?_
  refine lv_astore_n (lv' := [(2, .ref si), (0, .ref (a 0)), (1, .ref b)]) hx hb dL_build_7 rfl hl (by decide) rfl (fun ls hl => ?_)
  refine lv_iconst (v := 0) hx hb dL_build_8 (by decide) ?_
  refine lv_istore_n (lv' := [(3, .int 0), (2, .ref si), (0, .ref (a 0)), (1, .ref b)]) hx hb dL_build_9 rfl hl (by decide) rfl (fun ls hl => ?_)
  refine gw_loopc (fun (zz : Nat × Nat × Nat × Nat × Nat × (Nat × Nat → Nat) × (Nat → Nat → Int32) × Nat × Nat × Nat × Nat × Nat × Int32 × (Nat → Int32) × (Nat → Int32) × (Nat → Int32) × (Nat → Int32)) H locs ls => match zz with | (k, jj, ob, op, oc, ad, Q, nb, nq, nw, nr, day, co, ca, bo, sv, rl) => va_P D vwCl (sW si fa ob op oc ow cI cW cO (Q 0) nb nq nr (sRf ad 0 nb) (sRf ad 1 nq) (sRf ad 2 nr) (sRf ad 3 nw) (nI nw) (nI day) co ++ (([] ++ gG a cI cZ Q T nb nq nw nr day nbt nqt nwt dayt co ca bo) ++ sPl nb nq nr nw ad (sEn cI (Q 1) (Q 2) (Q 3) (Q 4) (Q 5) (Q 6) (Q 7) (Q 8) (Q 9) (Q 11) (Q 12) (Q 13) ca sv rl))) H ∧ va_D A (sW si fa ob op oc ow cI cW cO (Q 0) nb nq nr (sRf ad 0 nb) (sRf ad 1 nq) (sRf ad 2 nr) (sRf ad 3 nw) (nI nw) (nI day) co ++ (([] ++ gG a cI cZ Q T nb nq nw nr day nbt nqt nwt dayt co ca bo) ++ sPl nb nq nr nw ad (sEn cI (Q 1) (Q 2) (Q 3) (Q 4) (Q 5) (Q 6) (Q 7) (Q 8) (Q 9) (Q 11) (Q 12) (Q 13) ca sv rl))) ∧ va_S A s.heap H locs ∧ lv_has ls 4 [(3, .int (nI jj)), (2, .ref si), (0, .ref (a 0)), (1, .ref b)] ∧ (jj + k = 34) ∧ (gInv (4 * jj) Q nb nq nw day nr bo sv) ∧ (pX Q nb nq nw nr ca sv rl)) (fun (zz : Nat × Nat × Nat × Nat × Nat × (Nat × Nat → Nat) × (Nat → Nat → Int32) × Nat × Nat × Nat × Nat × Nat × Int32 × (Nat → Int32) × (Nat → Int32) × (Nat → Int32) × (Nat → Int32)) => match zz with | (k, jj, ob, op, oc, ad, Q, nb, nq, nw, nr, day, co, ca, bo, sv, rl) => k) (fun (zz : Nat × Nat × Nat × Nat × Nat × (Nat × Nat → Nat) × (Nat → Nat → Int32) × Nat × Nat × Nat × Nat × Nat × Int32 × (Nat → Int32) × (Nat → Int32) × (Nat → Int32) × (Nat → Int32)) => match zz with | (k, jj, ob, op, oc, ad, Q, nb, nq, nw, nr, day, co, ca, bo, sv, rl) => 6 + 62 * jj) (fun (zz : Nat × Nat × Nat × Nat × Nat × (Nat × Nat → Nat) × (Nat → Nat → Int32) × Nat × Nat × Nat × Nat × Nat × Int32 × (Nat → Int32) × (Nat → Int32) × (Nat → Int32) × (Nat → Int32)) => match zz with | (k, jj, ob, op, oc, ad, Q, nb, nq, nw, nr, day, co, ca, bo, sv, rl) => 77 + 312 * jj) (34, 0, ob, op, oc, (fun _ => 0), gZero, 0, 0, 0, 0, 0, 0, (fun _ => 0), (fun _ => 0), (fun _ => 0), (fun _ => 0)) (by show _ ≤ 6 + 62 * 0; omega) (by show _ ≤ 77 + 312 * 0; omega) ⟨hP, hD, hS, lv_sub hl [0, 1, 2, 3] rfl, (by omega), gInv_0, pX_0⟩ ?_
  rintro ⟨k, jj, ob, op, oc, ad, Q, nb, nq, nw, nr, day, co, ca, bo, sv, rl⟩ ih H locs ls ⟨hP, hD, hS, hl, hin, hI, hX⟩
  refine W.widen (k := 6 + 62 * jj) (n := 77 + 312 * jj) (Nat.le_refl _) (Nat.le_refl _) ?_
  have hP : va_P D vwCl (sW si fa ob op oc ow cI cW cO (Q 0) nb nq nr (sRf ad 0 nb) (sRf ad 1 nq) (sRf ad 2 nr) (sRf ad 3 nw) (nI nw) (nI day) co ++ (([] ++ gG a cI cZ Q T nb nq nw nr day nbt nqt nwt dayt co ca bo) ++ sPl nb nq nr nw ad (sEn cI (Q 1) (Q 2) (Q 3) (Q 4) (Q 5) (Q 6) (Q 7) (Q 8) (Q 9) (Q 11) (Q 12) (Q 13) ca sv rl))) H := hP
  have hD : va_D A (sW si fa ob op oc ow cI cW cO (Q 0) nb nq nr (sRf ad 0 nb) (sRf ad 1 nq) (sRf ad 2 nr) (sRf ad 3 nw) (nI nw) (nI day) co ++ (([] ++ gG a cI cZ Q T nb nq nw nr day nbt nqt nwt dayt co ca bo) ++ sPl nb nq nr nw ad (sEn cI (Q 1) (Q 2) (Q 3) (Q 4) (Q 5) (Q 6) (Q 7) (Q 8) (Q 9) (Q 11) (Q 12) (Q 13) ca sv rl))) := hD
  have hl : lv_has ls 4 [(3, .int (nI jj)), (2, .ref si), (0, .ref (a 0)), (1, .ref b)] := hl
  have hin : jj + k = 34 := hin
  have hI : gInv (4 * jj) Q nb nq nw day nr bo sv := hI
  have hX : pX Q nb nq nw nr ca sv rl := hX
  have ih10 := ih
  refine lv_iload_n hx hb dL_build_10 rfl (lv_at hl 0 rfl) ?_
  refine lv_bipush (v := 34) hx hb dL_build_11 (by decide) ?_
  refine lv_icmp_ge (tgt := 97) hx hb dL_build_13 (by decide) (fun c => ?_) (fun c => ?_)
  · skip
    have hk0 : k = 0 := by have := gw_ge (n := 34) (by omega) (by omega) c; omega
    subst hk0
    have hie : jj = 34 := by omega
    subst hie
    refine lv_aload_n hx hb dL_build_97 rfl (lv_at hl 1 rfl) ?_
    refine W.widen (k := 2200) (n := 11000) (by omega) (by omega) ?_
    exact W.aret (v := .ref si) (rt := (.object "GritWheelsLaw$Sim")) hx hb hr (Or.inl ⟨_, rfl⟩) (Or.inr ⟨_, rfl⟩) (fun t ht hW => ⟨⟨(), _, rfl, trivial, (⟨fa, ob, op, oc, ow, ad, Q, nb, nq, nw, nr, day, co, ca, bo, sv, rl, gw_hh ht hP, hD, hI, hX⟩)⟩, hS.F ht⟩) hS.2.2 dL_build_98
  · skip
    have hi : jj < 34 := gw_lt (n := 34) (by omega) (by omega) c
    obtain ⟨k, rfl⟩ : ∃ k2, k = k2 + 1 := ⟨k - 1, by omega⟩
    refine lv_aload_n hx hb dL_build_16 rfl (lv_at hl 2 rfl) ?_
    refine lv_aload_n hx hb dL_build_17 rfl (lv_at hl 1 rfl) ?_
    refine lv_aload_n hx hb dL_build_18 rfl (lv_at hl 3 rfl) ?_
    refine lv_iload_n hx hb dL_build_19 rfl (lv_at hl 0 rfl) ?_
    refine lv_bipush (v := 16) hx hb dL_build_20 (by decide) ?_
    refine lv_irem hx hb dL_build_22 (by decide) ?_
    refine gw_top (y := nI (jj % 16)) (lb_rem16 (by omega)) ?_
    refine va_calli (va_runS (As := [.ref b, .int (nI (jj % 16))]) (rest := [.ref si, .ref (a 0)]) ⟨hx, hb, hml, hown, hts⟩ (met_L_cell l b L xs (jj % 16) (by omega) hL) (va_cwS 2 hts gL_build_L_cell rfl rfl rfl (by decide +kernel) ⟨Nat.le_of_ble_eq_true rfl, Nat.le_of_ble_eq_true rfl⟩) (gv_psx hXs hbl hbA hS) rfl rfl hl.1 rfl (lv_room (Nat.le_of_ble_eq_true rfl)) dL_build_23 ⟨(by show _ ≤ 2200; omega), (by show _ ≤ 11000; omega)⟩) hS (fun _ _ z => z.elim) (fun _ z => z.elim) (fun r_2 _ t H1 locs ht hvm hw hB hz1 hk1 hS => ?_)
    have hP := gw_ro hP hk1
    generalize H1 = H at hP hS ⊢
    have hP : va_P D vwCl (sW si fa ob op oc ow cI cW cO (Q 0) nb nq nr (sRf ad 0 nb) (sRf ad 1 nq) (sRf ad 2 nr) (sRf ad 3 nw) (nI nw) (nI day) co ++ (([] ++ gG a cI cZ Q T nb nq nw nr day nbt nqt nwt dayt co ca bo) ++ sPl nb nq nr nw ad (sEn cI (Q 1) (Q 2) (Q 3) (Q 4) (Q 5) (Q 6) (Q 7) (Q 8) (Q 9) (Q 11) (Q 12) (Q 13) ca sv rl))) _ := hP
    have hD : va_D A (sW si fa ob op oc ow cI cW cO (Q 0) nb nq nr (sRf ad 0 nb) (sRf ad 1 nq) (sRf ad 2 nr) (sRf ad 3 nw) (nI nw) (nI day) co ++ (([] ++ gG a cI cZ Q T nb nq nw nr day nbt nqt nwt dayt co ca bo) ++ sPl nb nq nr nw ad (sEn cI (Q 1) (Q 2) (Q 3) (Q 4) (Q 5) (Q 6) (Q 7) (Q 8) (Q 9) (Q 11) (Q 12) (Q 13) ca sv rl))) := hD
    subst hw
    refine lv_iload_n hx hb dL_build_26 rfl (lv_at hl 0 rfl) ?_
    refine lv_bipush (v := 16) hx hb dL_build_27 (by decide) ?_
    refine lv_idiv hx hb dL_build_29 (by decide) ?_
    refine lv_iconst (v := 4) hx hb dL_build_30 (by decide) ?_
    refine lv_imul hx hb dL_build_31 ?_
    refine lv_ishr hx hb dL_build_32 ?_
    refine lv_sipush (v := 211) hx hb dL_build_33 (by decide) ?_
    refine lv_iload_n hx hb dL_build_36 rfl (lv_at hl 0 rfl) ?_
    refine lv_imul hx hb dL_build_37 ?_
    refine gw_top (y := nI (211 * jj)) (nI_mul 211 jj) ?_
    refine lv_iadd hx hb dL_build_38 ?_
    refine lv_iload_n hx hb dL_build_39 rfl (lv_at hl 0 rfl) ?_
    refine lv_bipush (v := 12) hx hb dL_build_40 (by decide) ?_
    refine gw_cut (X := Int32) (fun (zz : Int32) H locs ls => match zz with | x => va_P D vwCl (sW si fa ob op oc ow cI cW cO (Q 0) nb nq nr (sRf ad 0 nb) (sRf ad 1 nq) (sRf ad 2 nr) (sRf ad 3 nw) (nI nw) (nI day) co ++ (([] ++ gG a cI cZ Q T nb nq nw nr day nbt nqt nwt dayt co ca bo) ++ sPl nb nq nr nw ad (sEn cI (Q 1) (Q 2) (Q 3) (Q 4) (Q 5) (Q 6) (Q 7) (Q 8) (Q 9) (Q 11) (Q 12) (Q 13) ca sv rl))) H ∧ va_D A (sW si fa ob op oc ow cI cW cO (Q 0) nb nq nr (sRf ad 0 nb) (sRf ad 1 nq) (sRf ad 2 nr) (sRf ad 3 nw) (nI nw) (nI day) co ++ (([] ++ gG a cI cZ Q T nb nq nw nr day nbt nqt nwt dayt co ca bo) ++ sPl nb nq nr nw ad (sEn cI (Q 1) (Q 2) (Q 3) (Q 4) (Q 5) (Q 6) (Q 7) (Q 8) (Q 9) (Q 11) (Q 12) (Q 13) ca sv rl))) ∧ va_S A s.heap H locs ∧ lv_has ls 4 [(3, .int (nI jj)), (2, .ref si), (0, .ref (a 0)), (1, .ref b)] ∧ True) (fun (zz : Int32) ls => match zz with | x => F0 m 57 ls [.int x, .ref si, .ref (a 0)]) (6 + 62 * jj) (77 + 312 * jj) (fun hK57 => ?_) ?_
    · skip
      refine lv_icmp_ge (tgt := 55) hx hb dL_build_42 (by decide) (fun c_3 => ?_) (fun c_3 => ?_)
      · skip
        refine lv_iconst (v := 0) hx hb dL_build_55 (by decide) ?_
        refine lv_iadd hx hb dL_build_56 ?_
        exact hK57 ((((clv xs L (jj % 16)) >>> (((nI jj) / 16) * 4 &&& 31)) + (nI (211 * jj))) + 0) _ _ _ ⟨hP, hD, hS, lv_sub hl [0, 1, 2, 3] rfl, trivial⟩
      · skip
        refine lv_sipush (v := 512) hx hb dL_build_45 (by decide) ?_
        refine lv_iload_n hx hb dL_build_48 rfl (lv_at hl 0 rfl) ?_
        refine lv_iconst (v := 5) hx hb dL_build_49 (by decide) ?_
        refine lv_irem hx hb dL_build_50 (by decide) ?_
        refine lv_imul hx hb dL_build_51 ?_
        refine lv_goto (tgt := 56) hx hb dL_build_52 (by decide) ?_
        refine lv_iadd hx hb dL_build_56 ?_
        exact hK57 ((((clv xs L (jj % 16)) >>> (((nI jj) / 16) * 4 &&& 31)) + (nI (211 * jj))) + (512 * ((nI jj) - (nI jj) / 5 * 5))) _ _ _ ⟨hP, hD, hS, lv_sub hl [0, 1, 2, 3] rfl, trivial⟩
    · skip
      rintro x H locs ls ⟨hP, hD, hS, hl, -⟩
      have hP : va_P D vwCl (sW si fa ob op oc ow cI cW cO (Q 0) nb nq nr (sRf ad 0 nb) (sRf ad 1 nq) (sRf ad 2 nr) (sRf ad 3 nw) (nI nw) (nI day) co ++ (([] ++ gG a cI cZ Q T nb nq nw nr day nbt nqt nwt dayt co ca bo) ++ sPl nb nq nr nw ad (sEn cI (Q 1) (Q 2) (Q 3) (Q 4) (Q 5) (Q 6) (Q 7) (Q 8) (Q 9) (Q 11) (Q 12) (Q 13) ca sv rl))) H := hP
      have hD : va_D A (sW si fa ob op oc ow cI cW cO (Q 0) nb nq nr (sRf ad 0 nb) (sRf ad 1 nq) (sRf ad 2 nr) (sRf ad 3 nw) (nI nw) (nI day) co ++ (([] ++ gG a cI cZ Q T nb nq nw nr day nbt nqt nwt dayt co ca bo) ++ sPl nb nq nr nw ad (sEn cI (Q 1) (Q 2) (Q 3) (Q 4) (Q 5) (Q 6) (Q 7) (Q 8) (Q 9) (Q 11) (Q 12) (Q 13) ca sv rl))) := hD
      have hl : lv_has ls 4 [(3, .int (nI jj)), (2, .ref si), (0, .ref (a 0)), (1, .ref b)] := hl
      have hFc := gv_free hD hS hA
      refine va_calli (va_runS (As := [.ref (a 0), .ref si, .int x]) (rest := []) ⟨hx, hb, hml, hown, hts⟩ (met_L_act l D cI cZ cW cO ([]) a si fa ob op oc ow ad Q T nb nq nw nr day nbt nqt nwt dayt co ca bo sv rl x (4 * jj) hI hX H.size) (va_cwS 3 hts gL_build_L_act rfl rfl rfl (by decide +kernel) ⟨Nat.le_of_ble_eq_true rfl, Nat.le_of_ble_eq_true rfl⟩) (gv_pss hK hR hP hD) rfl rfl hl.1 rfl (lv_room (Nat.le_of_ble_eq_true rfl)) dL_build_57 ⟨(by show _ ≤ 2200; omega), (by show _ ≤ 11000; omega)⟩) hS (fun q _ h => hFc q h) hFc (fun r_4 u_ t H1 locs ht hvm hw hB hz1 hk1 hS => ?_)
      obtain ⟨obv, opv, ocv, adv, Qv, nbv, nqv, nrv, cov, cav, bov, svv, rlv, hP1, hD1, hIv, hXv, hCv, hlev⟩ := hB
      have hP1 : va_P D vwCl (sW si fa obv opv ocv ow cI cW cO (Qv 0) nbv nqv nrv (sRf adv 0 nbv) (sRf adv 1 nqv) (sRf adv 2 nrv) (sRf adv 3 nw) (nI nw) (nI day) cov ++ (([] ++ gG a cI cZ Qv T nbv nqv nw nrv day nbt nqt nwt dayt cov cav bov) ++ sPl nbv nqv nrv nw adv (sEn cI (Qv 1) (Qv 2) (Qv 3) (Qv 4) (Qv 5) (Qv 6) (Qv 7) (Qv 8) (Qv 9) (Qv 11) (Qv 12) (Qv 13) cav svv rlv))) t.heap := hP1
      rw [ht] at hP1
      have hD : va_D A (sW si fa obv opv ocv ow cI cW cO (Qv 0) nbv nqv nrv (sRf adv 0 nbv) (sRf adv 1 nqv) (sRf adv 2 nrv) (sRf adv 3 nw) (nI nw) (nI day) cov ++ (([] ++ gG a cI cZ Qv T nbv nqv nw nrv day nbt nqt nwt dayt cov cav bov) ++ sPl nbv nqv nrv nw adv (sEn cI (Qv 1) (Qv 2) (Qv 3) (Qv 4) (Qv 5) (Qv 6) (Qv 7) (Qv 8) (Qv 9) (Qv 11) (Qv 12) (Qv 13) cav svv rlv))) := hD1.weaken (fun _ _ _ h9 => hFc _ h9)
      have hP := hP1
      generalize H1 = H at hP hS ⊢
      have hP : va_P D vwCl (sW si fa obv opv ocv ow cI cW cO (Qv 0) nbv nqv nrv (sRf adv 0 nbv) (sRf adv 1 nqv) (sRf adv 2 nrv) (sRf adv 3 nw) (nI nw) (nI day) cov ++ (([] ++ gG a cI cZ Qv T nbv nqv nw nrv day nbt nqt nwt dayt cov cav bov) ++ sPl nbv nqv nrv nw adv (sEn cI (Qv 1) (Qv 2) (Qv 3) (Qv 4) (Qv 5) (Qv 6) (Qv 7) (Qv 8) (Qv 9) (Qv 11) (Qv 12) (Qv 13) cav svv rlv))) _ := hP
      have hD : va_D A (sW si fa obv opv ocv ow cI cW cO (Qv 0) nbv nqv nrv (sRf adv 0 nbv) (sRf adv 1 nqv) (sRf adv 2 nrv) (sRf adv 3 nw) (nI nw) (nI day) cov ++ (([] ++ gG a cI cZ Qv T nbv nqv nw nrv day nbt nqt nwt dayt cov cav bov) ++ sPl nbv nqv nrv nw adv (sEn cI (Qv 1) (Qv 2) (Qv 3) (Qv 4) (Qv 5) (Qv 6) (Qv 7) (Qv 8) (Qv 9) (Qv 11) (Qv 12) (Qv 13) cav svv rlv))) := hD
      subst hw
      refine W.widen (k := 8 + 62 * jj) (n := 89 + 312 * jj) (by omega) (by omega) ?_
      refine lv_if_ne (tgt := 65) hx hb dL_build_60 (by decide) (fun _ => ?_) (fun c_5 => False.elim (by revert c_5; decide))
      refine lv_iload_n hx hb dL_build_65 rfl (lv_at hl 0 rfl) ?_
      refine lv_bipush (v := 10) hx hb dL_build_66 (by decide) ?_
      refine lv_icmp_le (tgt := 91) hx hb dL_build_68 (by decide) (fun c_6 => ?_) (fun c_6 => ?_)
      · skip
        refine lv_iinc (v := nI (jj + 1)) (lv' := [(3, .int (nI (jj + 1))), (2, .ref si), (0, .ref (a 0)), (1, .ref b)]) hx hb dL_build_91 hl (k := 0) rfl (nI_add jj 1) (by decide) rfl (fun ls hl => ?_)
        refine lv_goto (tgt := 10) hx hb dL_build_94 (by decide) ?_
        refine W.widen (k := 6 + 62 * (jj + 1)) (n := 77 + 312 * (jj + 1)) (by omega) (by omega) ?_
        exact ih10 (k, jj + 1, obv, opv, ocv, adv, Qv, nbv, nqv, nw, nrv, day, cov, cav, bov, svv, rlv) H locs ls (by dsimp only; omega) ⟨hP, hD, hS, lv_sub hl [0, 1, 2, 3] rfl, (by omega), (hIv.next (by omega)), hXv⟩
      · skip
        refine lv_iload_n hx hb dL_build_71 rfl (lv_at hl 0 rfl) ?_
        refine lv_iconst (v := 3) hx hb dL_build_72 (by decide) ?_
        refine lv_irem hx hb dL_build_73 (by decide) ?_
        refine lv_if_ne (tgt := 91) hx hb dL_build_74 (by decide) (fun c_7 => ?_) (fun c_7 => ?_)
        · skip
          refine lv_iinc (v := nI (jj + 1)) (lv' := [(3, .int (nI (jj + 1))), (2, .ref si), (0, .ref (a 0)), (1, .ref b)]) hx hb dL_build_91 hl (k := 0) rfl (nI_add jj 1) (by decide) rfl (fun ls hl => ?_)
          refine lv_goto (tgt := 10) hx hb dL_build_94 (by decide) ?_
          refine W.widen (k := 6 + 62 * (jj + 1)) (n := 77 + 312 * (jj + 1)) (by omega) (by omega) ?_
          exact ih10 (k, jj + 1, obv, opv, ocv, adv, Qv, nbv, nqv, nw, nrv, day, cov, cav, bov, svv, rlv) H locs ls (by dsimp only; omega) ⟨hP, hD, hS, lv_sub hl [0, 1, 2, 3] rfl, (by omega), (hIv.next (by omega)), hXv⟩
        · skip
          refine lv_aload_n hx hb dL_build_77 rfl (lv_at hl 2 rfl) ?_
          refine lv_iconst (v := 1) hx hb dL_build_78 (by decide) ?_
          refine gw_top (y := nI 1) rfl ?_
          refine va_calli (va_runV (As := [.int (nI 1)]) (rest := []) ⟨hx, hb, hml, hown, hts⟩ (met_W_pass l D cI cZ cW cO a Qv T nbv nqv nw nrv day nbt nqt nwt dayt cov cav bov 1 (Nat.le_refl _) (by decide) hIv.hnq hIv.hnb hIv.hnw (by have h8 := hIv.hday; omega) hIv.hpl) (cwV 1 hts gL_build_X5_pass rfl rfl rfl (by decide +kernel) ⟨Nat.le_of_ble_eq_true rfl, Nat.le_of_ble_eq_true rfl⟩) (gv_pvw hK (gP_G hP) (gD_G hD) 5 rfl rfl rfl) rfl rfl hl.1 rfl (lv_room (Nat.le_of_ble_eq_true rfl)) dL_build_79 ⟨(by show _ ≤ 2200; omega), (by show _ ≤ 11000; omega)⟩) hS (fun q _ h => gA_G hD q h) (gA_G hD) (fun r_8 _ t H1 locs ht hvm hw hB hz1 hk1 hS => ?_)
          have hB : va_P D vwCl (gG a cI cZ ((gGo nqv 1 Qv nw day).1) T nbv nqv ((gGo nqv 1 Qv nw day).2) nrv (day + 1) nbt nqt nwt dayt cov cav bov) t.heap := hB
          rw [ht] at hB
          obtain ⟨hP, hD⟩ := gPD_G (G' := gG a cI cZ ((gGo nqv 1 Qv nw day).1) T nbv nqv ((gGo nqv 1 Qv nw day).2) nrv (day + 1) nbt nqt nwt dayt cov cav bov) hP hD rfl hk1 hB
          generalize H1 = H at hP hS ⊢
          have hP : va_P D vwCl (sW si fa obv opv ocv ow cI cW cO (Qv 0) nbv nqv nrv (sRf adv 0 nbv) (sRf adv 1 nqv) (sRf adv 2 nrv) (sRf adv 3 nw) (nI nw) (nI day) cov ++ (([] ++ gG a cI cZ ((gGo nqv 1 Qv nw day).1) T nbv nqv ((gGo nqv 1 Qv nw day).2) nrv (day + 1) nbt nqt nwt dayt cov cav bov) ++ sPl nbv nqv nrv nw adv (sEn cI (Qv 1) (Qv 2) (Qv 3) (Qv 4) (Qv 5) (Qv 6) (Qv 7) (Qv 8) (Qv 9) (Qv 11) (Qv 12) (Qv 13) cav svv rlv))) _ := hP
          have hD : va_D A (sW si fa obv opv ocv ow cI cW cO (Qv 0) nbv nqv nrv (sRf adv 0 nbv) (sRf adv 1 nqv) (sRf adv 2 nrv) (sRf adv 3 nw) (nI nw) (nI day) cov ++ (([] ++ gG a cI cZ ((gGo nqv 1 Qv nw day).1) T nbv nqv ((gGo nqv 1 Qv nw day).2) nrv (day + 1) nbt nqt nwt dayt cov cav bov) ++ sPl nbv nqv nrv nw adv (sEn cI (Qv 1) (Qv 2) (Qv 3) (Qv 4) (Qv 5) (Qv 6) (Qv 7) (Qv 8) (Qv 9) (Qv 11) (Qv 12) (Qv 13) cav svv rlv))) := hD
          subst hw
          refine lv_aload_n hx hb dL_build_82 rfl (lv_at hl 1 rfl) ?_
          have hFc := gv_free hD hS hA
          refine va_calli (va_runV (As := []) (rest := [.int (nI (gGo nqv 1 Qv nw day).2 - nI nw)]) ⟨hx, hb, hml, hown, hts⟩ (met_X6_pass l D cI cZ cW cO si fa obv opv ocv ow adv nbv nqv nrv nw day cov Qv cav svv rlv ([] ++ gG a cI cZ ((gGo nqv 1 Qv nw day).1) T nbv nqv ((gGo nqv 1 Qv nw day).2) nrv (day + 1) nbt nqt nwt dayt cov cav bov) (by have h8 := hIv.hday; omega) hIv.hnb hIv.hnq hIv.hnr hIv.hnw hIv.hpl hIv.hgr hIv.hsk hIv.hdu hXv.e3 hXv.e0 (fun r hr9 => by rcases hIv.hrf.1 r hr9 with ⟨g9, e1, -, e2, -⟩ | ⟨e1, -⟩; exact Or.inr ⟨g9, e1, e2⟩; exact Or.inl e1) H.size) (cwV 0 hts gL_build_X6_pass rfl rfl rfl (by decide +kernel) ⟨Nat.le_of_ble_eq_true rfl, Nat.le_of_ble_eq_true rfl⟩) (gv_pvs hK hR hP hD 6 rfl rfl rfl) rfl rfl hl.1 rfl (lv_room (Nat.le_of_ble_eq_true rfl)) dL_build_83 ⟨(by show _ ≤ 2200; omega), (by show _ ≤ 11000; omega)⟩) hS (fun q _ h => hFc q h) hFc (fun r_9 adw t H1 locs ht hvm hw hB hz1 hk1 hS => ?_)
          have hP1 : va_P D vwCl (sW si fa obv opv ocv ow cI cW cO (Qv 0) nbv nqv nrv (sRf adw 0 nbv) (sRf adw 1 nqv) (sRf adw 2 nrv) (sRf adw 3 ((gDay Qv nqv nw day).2)) (nI ((gDay Qv nqv nw day).2)) (nI (day + 1)) cov ++ (([] ++ gG a cI cZ ((gGo nqv 1 Qv nw day).1) T nbv nqv ((gGo nqv 1 Qv nw day).2) nrv (day + 1) nbt nqt nwt dayt cov cav bov) ++ sPl nbv nqv nrv ((gDay Qv nqv nw day).2) adw (sEn cI ((gDay Qv nqv nw day).1 1) ((gDay Qv nqv nw day).1 2) ((gDay Qv nqv nw day).1 3) ((gDay Qv nqv nw day).1 4) ((gDay Qv nqv nw day).1 5) ((gDay Qv nqv nw day).1 6) ((gDay Qv nqv nw day).1 7) ((gDay Qv nqv nw day).1 8) ((gDay Qv nqv nw day).1 9) ((gDay Qv nqv nw day).1 11) ((gDay Qv nqv nw day).1 12) ((gDay Qv nqv nw day).1 13) cav (gM nrv (gBo day svv) svv) (gM nw rlv (fun _ => -1))))) t.heap := hB.1
          have hD1 := hB.2
          rw [ht] at hP1
          have hD : va_D A (sW si fa obv opv ocv ow cI cW cO (Qv 0) nbv nqv nrv (sRf adw 0 nbv) (sRf adw 1 nqv) (sRf adw 2 nrv) (sRf adw 3 ((gDay Qv nqv nw day).2)) (nI ((gDay Qv nqv nw day).2)) (nI (day + 1)) cov ++ (([] ++ gG a cI cZ ((gGo nqv 1 Qv nw day).1) T nbv nqv ((gGo nqv 1 Qv nw day).2) nrv (day + 1) nbt nqt nwt dayt cov cav bov) ++ sPl nbv nqv nrv ((gDay Qv nqv nw day).2) adw (sEn cI ((gDay Qv nqv nw day).1 1) ((gDay Qv nqv nw day).1 2) ((gDay Qv nqv nw day).1 3) ((gDay Qv nqv nw day).1 4) ((gDay Qv nqv nw day).1 5) ((gDay Qv nqv nw day).1 6) ((gDay Qv nqv nw day).1 7) ((gDay Qv nqv nw day).1 8) ((gDay Qv nqv nw day).1 9) ((gDay Qv nqv nw day).1 11) ((gDay Qv nqv nw day).1 12) ((gDay Qv nqv nw day).1 13) cav (gM nrv (gBo day svv) svv) (gM nw rlv (fun _ => -1))))) := hD1.weaken (fun _ _ _ h9 => hFc _ h9)
          have hP := hP1
          generalize H1 = H at hP hS ⊢
          have hP : va_P D vwCl (sW si fa obv opv ocv ow cI cW cO (Qv 0) nbv nqv nrv (sRf adw 0 nbv) (sRf adw 1 nqv) (sRf adw 2 nrv) (sRf adw 3 ((gDay Qv nqv nw day).2)) (nI ((gDay Qv nqv nw day).2)) (nI (day + 1)) cov ++ (([] ++ gG a cI cZ ((gGo nqv 1 Qv nw day).1) T nbv nqv ((gGo nqv 1 Qv nw day).2) nrv (day + 1) nbt nqt nwt dayt cov cav bov) ++ sPl nbv nqv nrv ((gDay Qv nqv nw day).2) adw (sEn cI ((gDay Qv nqv nw day).1 1) ((gDay Qv nqv nw day).1 2) ((gDay Qv nqv nw day).1 3) ((gDay Qv nqv nw day).1 4) ((gDay Qv nqv nw day).1 5) ((gDay Qv nqv nw day).1 6) ((gDay Qv nqv nw day).1 7) ((gDay Qv nqv nw day).1 8) ((gDay Qv nqv nw day).1 9) ((gDay Qv nqv nw day).1 11) ((gDay Qv nqv nw day).1 12) ((gDay Qv nqv nw day).1 13) cav (gM nrv (gBo day svv) svv) (gM nw rlv (fun _ => -1))))) _ := hP
          have hD : va_D A (sW si fa obv opv ocv ow cI cW cO (Qv 0) nbv nqv nrv (sRf adw 0 nbv) (sRf adw 1 nqv) (sRf adw 2 nrv) (sRf adw 3 ((gDay Qv nqv nw day).2)) (nI ((gDay Qv nqv nw day).2)) (nI (day + 1)) cov ++ (([] ++ gG a cI cZ ((gGo nqv 1 Qv nw day).1) T nbv nqv ((gGo nqv 1 Qv nw day).2) nrv (day + 1) nbt nqt nwt dayt cov cav bov) ++ sPl nbv nqv nrv ((gDay Qv nqv nw day).2) adw (sEn cI ((gDay Qv nqv nw day).1 1) ((gDay Qv nqv nw day).1 2) ((gDay Qv nqv nw day).1 3) ((gDay Qv nqv nw day).1 4) ((gDay Qv nqv nw day).1 5) ((gDay Qv nqv nw day).1 6) ((gDay Qv nqv nw day).1 7) ((gDay Qv nqv nw day).1 8) ((gDay Qv nqv nw day).1 9) ((gDay Qv nqv nw day).1 11) ((gDay Qv nqv nw day).1 12) ((gDay Qv nqv nw day).1 13) cav (gM nrv (gBo day svv) svv) (gM nw rlv (fun _ => -1))))) := hD
          subst hw
          refine W.widen (k := 68 + 62 * jj) (n := 389 + 312 * jj) (by omega) (by omega) ?_
          refine lv_icmp_eq (tgt := 91) hx hb dL_build_86 (by decide) (fun c_11 => ?_) (fun c_11 => (by first | exact absurd c_11 (rfl : nI (gGo nqv 1 Qv nw day).2 - nI nw = nI (gDay Qv nqv nw day).2 - nI nw) | exact absurd (rfl : nI (gGo nqv 1 Qv nw day).2 - nI nw = nI (gDay Qv nqv nw day).2 - nI nw) c_11))
          refine lv_iinc (v := nI (jj + 1)) (lv' := [(3, .int (nI (jj + 1))), (2, .ref si), (0, .ref (a 0)), (1, .ref b)]) hx hb dL_build_91 hl (k := 0) rfl (nI_add jj 1) (by decide) rfl (fun ls hl => ?_)
          refine lv_goto (tgt := 10) hx hb dL_build_94 (by decide) ?_
          obtain ⟨-, hX2⟩ := day_out hIv hXv
          have hI2 := hIv.pass (dd := 1) (by omega) (by omega)
          rw [← gDay_0 (Q := Qv) (nq := nqv) (nw := nw) (day := day)] at hP hD
          refine W.widen (k := 6 + 62 * (jj + 1)) (n := 77 + 312 * (jj + 1)) (by omega) (by omega) ?_
          exact ih10 (k, jj + 1, obv, opv, ocv, adw, (gDay Qv nqv nw day).1, nbv, nqv, (gDay Qv nqv nw day).2, nrv, day + 1, cov, cav, bov, gM nrv (gBo day svv) svv, gM nw rlv (fun _ => -1)) H locs ls (by dsimp only; omega) ⟨hP, hD, hS, lv_sub hl [0, 1, 2, 3] rfl, (by omega), hI2, hX2⟩
