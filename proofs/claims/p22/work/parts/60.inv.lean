/-! What holds of the quarry behind every call. -/
/-- the rafts: away since g, back at g + 4; or there; none is away that is not built -/
def gRf (nr day : Nat) (bo we : Nat → Int32) : Prop := (∀ r, r < nr → (∃ g, we r = nI g ∧ bo r = nI (g + 4) ∧ g ≤ day ∧ day < g + 4) ∨ (we r = -1 ∧ ∃ g, bo r = nI g ∧ g ≤ day)) ∧ ∀ r, nr ≤ r → bo r = 0
def gInv (i : Nat) (Q : Nat → Nat → Int32) (nb nq nw day nr : Nat) (bo we : Nat → Int32) : Prop := nb ≤ 5 ∧ nq ≤ 6 ∧ nw ≤ 60 ∧ nr ≤ 3 ∧ day ≤ 10 * i ∧ i ≤ 3000 ∧ gPl Q nb nq ∧ gWh Q nb nw ∧ gSk Q ∧ gDu Q ∧ gGr Q nb ∧ gRf nr day bo we
theorem gInv.hnb {i : Nat} {Q : Nat → Nat → Int32} {nb nq nw day nr : Nat} {bo we : Nat → Int32} (I : gInv i Q nb nq nw day nr bo we) : nb ≤ 5 := I.1
theorem gInv.hnq {i : Nat} {Q : Nat → Nat → Int32} {nb nq nw day nr : Nat} {bo we : Nat → Int32} (I : gInv i Q nb nq nw day nr bo we) : nq ≤ 6 := I.2.1
theorem gInv.hnw {i : Nat} {Q : Nat → Nat → Int32} {nb nq nw day nr : Nat} {bo we : Nat → Int32} (I : gInv i Q nb nq nw day nr bo we) : nw ≤ 60 := I.2.2.1
theorem gInv.hnr {i : Nat} {Q : Nat → Nat → Int32} {nb nq nw day nr : Nat} {bo we : Nat → Int32} (I : gInv i Q nb nq nw day nr bo we) : nr ≤ 3 := I.2.2.2.1
theorem gInv.hday {i : Nat} {Q : Nat → Nat → Int32} {nb nq nw day nr : Nat} {bo we : Nat → Int32} (I : gInv i Q nb nq nw day nr bo we) : day ≤ 10 * i := I.2.2.2.2.1
theorem gInv.hi {i : Nat} {Q : Nat → Nat → Int32} {nb nq nw day nr : Nat} {bo we : Nat → Int32} (I : gInv i Q nb nq nw day nr bo we) : i ≤ 3000 := I.2.2.2.2.2.1
theorem gInv.hpl {i : Nat} {Q : Nat → Nat → Int32} {nb nq nw day nr : Nat} {bo we : Nat → Int32} (I : gInv i Q nb nq nw day nr bo we) : gPl Q nb nq := I.2.2.2.2.2.2.1
theorem gInv.hwh {i : Nat} {Q : Nat → Nat → Int32} {nb nq nw day nr : Nat} {bo we : Nat → Int32} (I : gInv i Q nb nq nw day nr bo we) : gWh Q nb nw := I.2.2.2.2.2.2.2.1
theorem gInv.hsk {i : Nat} {Q : Nat → Nat → Int32} {nb nq nw day nr : Nat} {bo we : Nat → Int32} (I : gInv i Q nb nq nw day nr bo we) : gSk Q := I.2.2.2.2.2.2.2.2.1
theorem gInv.hdu {i : Nat} {Q : Nat → Nat → Int32} {nb nq nw day nr : Nat} {bo we : Nat → Int32} (I : gInv i Q nb nq nw day nr bo we) : gDu Q := I.2.2.2.2.2.2.2.2.2.1
theorem gInv.hgr {i : Nat} {Q : Nat → Nat → Int32} {nb nq nw day nr : Nat} {bo we : Nat → Int32} (I : gInv i Q nb nq nw day nr bo we) : gGr Q nb := I.2.2.2.2.2.2.2.2.2.2.1
theorem gInv.hrf {i : Nat} {Q : Nat → Nat → Int32} {nb nq nw day nr : Nat} {bo we : Nat → Int32} (I : gInv i Q nb nq nw day nr bo we) : gRf nr day bo we := I.2.2.2.2.2.2.2.2.2.2.2
theorem gInv.away {i : Nat} {Q : Nat → Nat → Int32} {nb nq nw day nr : Nat} {bo we : Nat → Int32} (I : gInv i Q nb nq nw day nr bo we) {r : Nat} (hr : r < nr) : we r = -1 ↔ ¬ nI day < bo r := by
  have hd := I.hday
  have hi := I.hi
  rcases I.hrf.1 r hr with ⟨g, h1, h2, h3, h4⟩ | ⟨h1, g, h2, h3⟩
  · rw [h1, h2]
    exact ⟨fun h => absurd h (gw_nIm1 (by omega)), fun h => absurd (nI_lt h4 (by omega)) h⟩
  · rw [h1, h2]
    exact ⟨fun _ => nI_nlt h3 (by omega), fun _ => rfl⟩
theorem gInv.next {i : Nat} {Q : Nat → Nat → Int32} {nb nq nw day nr : Nat} {bo we : Nat → Int32} (I : gInv i Q nb nq nw day nr bo we) (hi : i + 4 ≤ 3000) : gInv (i + 4) Q nb nq nw day nr bo we :=
  ⟨I.hnb, I.hnq, I.hnw, I.hnr, by have := I.hday; omega, hi, I.hpl, I.hwh, I.hsk, I.hdu, I.hgr, I.hrf⟩
theorem gInv.fall {i : Nat} {Q : Nat → Nat → Int32} {nb nq nw day nr : Nat} {bo we : Nat → Int32} (I : gInv i Q nb nq nw day nr bo we) (f : Nat → Int32) : gInv i (pk Q 0 f) nb nq nw day nr bo we :=
  ⟨I.hnb, I.hnq, I.hnw, I.hnr, I.hday, I.hi, I.hpl.of rfl, gWh_ext I.hwh rfl rfl rfl rfl rfl rfl rfl, I.hsk.of rfl, I.hdu, I.hgr.of rfl, I.hrf⟩
theorem gInv.bedNew {i : Nat} {Q : Nat → Nat → Int32} {nb nq nw day nr : Nat} {bo we : Nat → Int32} (I : gInv i Q nb nq nw day nr bo we) {y1 : Int32} (y2 y3 : Int32) (hn : nb < 5) (hy : (1 : Int32) ≤ y1 ∧ y1 ≤ 9) : gInv i (gOpen Q nb y1 y2 y3) (nb + 1) nq nw day nr bo we := by
  refine ⟨hn, I.hnq, I.hnw, I.hnr, I.hday, I.hi, fun j hj => ?_, ⟨fun w hw => ?_, I.hwh.2⟩, I.hsk, I.hdu, fun b hb => ?_, I.hrf⟩
  · rcases I.hpl j hj with h | ⟨k, hk, h⟩
    · exact Or.inl h
    · exact Or.inr ⟨k, by omega, h⟩
  · obtain ⟨b, hb, h1, h2⟩ := I.hwh.1 w hw
    refine ⟨b, by omega, h1, ?_⟩
    show Q 10 w = upd (Q 1) nb y1 b
    rw [upd_ne (by omega)]; exact h2
  · show (1 : Int32) ≤ upd (Q 1) nb y1 b ∧ upd (Q 1) nb y1 b ≤ 9
    by_cases e : b = nb
    · subst e; rw [upd_at]; exact hy
    · rw [upd_ne e]; exact I.hgr b (by omega)
theorem gInv.hire {i : Nat} {Q : Nat → Nat → Int32} {nb nq nw day nr : Nat} {bo we : Nat → Int32} (I : gInv i Q nb nq nw day nr bo we) {y : Int32} (hn : nq < 6) (hy : (1 : Int32) ≤ y ∧ y ≤ 9) : gInv i (gHire Q nq y) nb (nq + 1) nw day nr bo we := by
  refine ⟨I.hnb, hn, I.hnw, I.hnr, I.hday, I.hi, fun j hj => ?_, gWh_ext I.hwh rfl rfl rfl rfl rfl rfl rfl, fun j => ?_, I.hdu, I.hgr.of rfl, I.hrf⟩
  · show upd (Q 6) nq (-1) j = -1 ∨ ∃ kk, kk < nb ∧ upd (Q 6) nq (-1) j = nI kk
    by_cases e : j = nq
    · subst e; exact Or.inl upd_at
    · rw [upd_ne e]; exact I.hpl j (by omega)
  · show (0 : Int32) ≤ upd (Q 5) nq y j ∧ upd (Q 5) nq y j ≤ 9
    by_cases e : j = nq
    · subst e; rw [upd_at]; exact ⟨Int32.le_trans (by decide) hy.1, hy.2⟩
    · rw [upd_ne e]; exact I.hsk j
theorem gInv.send {i : Nat} {Q : Nat → Nat → Int32} {nb nq nw day nr : Nat} {bo we : Nat → Int32} (I : gInv i Q nb nq nw day nr bo we) {x : Int32} (k : Nat) (hx : x = -1 ∨ ∃ kk, kk < nb ∧ x = nI kk) : gInv i (pk Q 6 (upd (Q 6) k x)) nb nq nw day nr bo we := by
  refine ⟨I.hnb, I.hnq, I.hnw, I.hnr, I.hday, I.hi, fun j hj => ?_, gWh_ext I.hwh rfl rfl rfl rfl rfl rfl rfl, I.hsk.of rfl, I.hdu, I.hgr.of rfl, I.hrf⟩
  show upd (Q 6) k x j = -1 ∨ ∃ kk, kk < nb ∧ upd (Q 6) k x j = nI kk
  by_cases e : j = k
  · subst e; rw [upd_at]; exact hx
  · rw [upd_ne e]; exact I.hpl j hj
theorem gInv.smash {i : Nat} {Q : Nat → Nat → Int32} {nb nq nw day nr : Nat} {bo we : Nat → Int32} (I : gInv i Q nb nq nw day nr bo we) {k : Nat} (b : Nat) (hst : Q 13 k < 2) : gInv i (gSmash Q k b) nb nq nw day nr bo we := by
  refine ⟨I.hnb, I.hnq, I.hnw, I.hnr, I.hday, I.hi, I.hpl.of rfl, ⟨I.hwh.1, I.hwh.2.1, fun w hw => ?_, I.hwh.2.2.2⟩, I.hsk, I.hdu, I.hgr.of rfl, I.hrf⟩
  show Q 14 w = -1 ∨ upd (Q 13) k 4 w = 2
  rcases I.hwh.2.2.1 w hw with h | h
  · exact Or.inl h
  · by_cases e : w = k
    · subst e; rw [h] at hst; exact absurd hst (by decide)
    · rw [upd_ne e]; exact Or.inr h
theorem gInv.build {i : Nat} {Q : Nat → Nat → Int32} {nb nq nw day nr : Nat} {bo we : Nat → Int32} (I : gInv i Q nb nq nw day nr bo we) (hn : nr < 3) : gInv i Q nb nq nw day (nr + 1) bo (upd we nr (-1)) := by
  refine ⟨I.hnb, I.hnq, I.hnw, hn, I.hday, I.hi, I.hpl, I.hwh, I.hsk, I.hdu, I.hgr, fun r hr => ?_, fun r hr => I.hrf.2 r (by omega)⟩
  by_cases e : r = nr
  · subst e; rw [upd_at]; exact Or.inr ⟨rfl, 0, I.hrf.2 r (by omega), by omega⟩
  · rw [upd_ne e]; exact I.hrf.1 r (by omega)
theorem gInv.load {i : Nat} {Q : Nat → Nat → Int32} {nb nq nw day nr : Nat} {bo we : Nat → Int32} (I : gInv i Q nb nq nw day nr bo we) (k r : Nat) : gInv i (gPut Q k r) nb nq nw day nr bo we :=
  ⟨I.hnb, I.hnq, I.hnw, I.hnr, I.hday, I.hi, I.hpl.of rfl, ⟨I.hwh.1, I.hwh.2.1, gPut_car I.hwh.2.2.1, I.hwh.2.2.2⟩, I.hsk.of rfl, I.hdu, I.hgr.of rfl, I.hrf⟩
theorem gInv.ship {i : Nat} {Q : Nat → Nat → Int32} {nb nq nw day nr : Nat} {bo we : Nat → Int32} (I : gInv i Q nb nq nw day nr bo we) {r : Nat} (hr : r < nr) : gInv i (gShip Q r nw) nb nq nw day nr (upd bo r (nI (day + 4))) (upd we r (nI day)) := by
  refine ⟨I.hnb, I.hnq, I.hnw, I.hnr, I.hday, I.hi, I.hpl.of rfl, ⟨I.hwh.1, I.hwh.2.1, fun w hw => ?_, I.hwh.2.2.2⟩, I.hsk.of rfl, I.hdu, I.hgr.of rfl, fun j hj => ?_, fun j hj => ?_⟩
  · show gM nw (fun j => if Q 14 j = nI r then (-1) else Q 14 j) (Q 14) w = -1 ∨ gM nw (fun j => if Q 14 j = nI r then 3 else Q 13 j) (Q 13) w = 2
    rw [gM_lo hw, gM_lo hw]
    by_cases e : Q 14 w = nI r
    · exact Or.inl (if_pos e)
    · rw [if_neg e, if_neg e]; exact I.hwh.2.2.1 w hw
  · by_cases e : j = r
    · subst e; rw [upd_at, upd_at]; exact Or.inl ⟨day, rfl, rfl, Nat.le_refl _, by omega⟩
    · rw [upd_ne e, upd_ne e]; exact I.hrf.1 j hj
  · rw [upd_ne (by omega)]; exact I.hrf.2 j hj
theorem gRf_day {nr day : Nat} {bo we : Nat → Int32} (hd : day < 2 ^ 30) (h : gRf nr day bo we) : gRf nr (day + 1) bo (gM nr (gBo day we) we) := by
  refine ⟨fun r hr => ?_, h.2⟩
  rw [gM_lo hr]
  unfold gBo
  rcases h.1 r hr with ⟨g, h1, h2, h3, h4⟩ | ⟨h1, g, h2, h3⟩
  · rw [h1, if_neg (gw_nIm1 (by omega))]
    by_cases e : g + 3 = day
    · rw [if_pos (by rw [show (3 : Int32) = nI 3 from rfl, nI_sub (by omega), show day - 3 = g by omega])]
      exact Or.inr ⟨rfl, g + 4, h2, by omega⟩
    · rw [if_neg (fun z => e ?_)]
      · exact Or.inl ⟨g, rfl, h2, by omega, by omega⟩
      · have z2 : nI g + 3 = nI day := by rw [z, Int32.sub_add_cancel]
        rw [show (3 : Int32) = nI 3 from rfl, nI_add] at z2
        exact (nI_eq (by omega) (by omega)).mp z2
  · rw [if_pos h1]
    exact Or.inr ⟨h1, g, h2, by omega⟩
theorem gRf_go {nr : Nat} {bo : Nat → Int32} : ∀ (k day : Nat) (we : Nat → Int32), day + k < 2 ^ 30 → gRf nr day bo we → gRf nr (day + k) bo (gBg nr k day we) := by
  intro k
  induction k with
  | zero => intro day we _ h; exact h
  | succ k ih =>
    intro day we hd h
    unfold gBg
    have h2 := ih (day + 1) _ (by omega) (gRf_day (by omega) h)
    rw [show day + 1 + k = day + (k + 1) by omega] at h2
    exact h2
theorem gInv.pass {i : Nat} {Q : Nat → Nat → Int32} {nb nq nw day nr : Nat} {bo we : Nat → Int32} (I : gInv i Q nb nq nw day nr bo we) {dd : Nat} (hd : dd ≤ 40) (hi : i + 4 ≤ 3000) : gInv (i + 4) (gGo nq dd Q nw day).1 nb nq (gGo nq dd Q nw day).2 (day + dd) nr bo (gBg nr dd day we) :=
  ⟨I.hnb, I.hnq, gGo_nw nq dd Q nw day I.hnw, I.hnr, by have := I.hday; omega, hi, I.hpl.of (gGo_6 nq dd Q nw day 6 (by decide)), gGo_wh I.hnb dd Q nw day I.hpl I.hsk I.hwh, I.hsk.of (gGo_6 nq dd Q nw day 5 (by decide)), gGo_du I.hnb dd Q nw day I.hdu I.hgr I.hpl, I.hgr.of (gGo_6 nq dd Q nw day 1 (by decide)), gRf_go dd day we (by have := I.hday; have := I.hi; omega) I.hrf⟩
/-- what is worth nothing less than 0 -/
theorem gS_in {g : Nat → Int32} {M : Nat} : ∀ (k i a : Nat), a + k * M < 2 ^ 31 → (∀ j, i ≤ j → j < i + k → ∃ x, x ≤ M ∧ g j = nI x) → ∃ y, y ≤ a + k * M ∧ gS g k i (nI a) = nI y := by
  intro k
  induction k with
  | zero => intro i a _ _; exact ⟨a, by omega, rfl⟩
  | succ k ih =>
    intro i a ha h
    obtain ⟨x, hx, hg⟩ := h i (Nat.le_refl _) (by omega)
    have hm : (k + 1) * M = k * M + M := Nat.succ_mul k M
    obtain ⟨y, hy, hs⟩ := ih (i + 1) (a + x) (by omega) (fun j h1 h2 => h j (by omega) (by omega))
    refine ⟨y, by omega, ?_⟩
    show gS g k (i + 1) (nI a + g i) = nI y
    rw [hg, nI_add]; exact hs
def gIn (x : Int32) : Bool := decide ((0 : Int32) ≤ x) && decide (x ≤ 162)
theorem gIn_ok {x : Int32} (h : gIn x = true) : (0 : Int32) ≤ x ∧ x ≤ 162 := by
  unfold gIn at h
  rw [Bool.and_eq_true] at h
  exact ⟨of_decide_eq_true h.1, of_decide_eq_true h.2⟩
theorem gWorth_t1 : ∀ a, a < 7 → ∀ b, b < 10 → b = 0 ∨ gIn (nI a * (10 - nI b)) = true := by decide +kernel
theorem gWorth_t2 : ∀ a, a < 7 → ∀ b, b < 10 → b = 0 ∨ gIn (3 * (nI a * (10 - nI b))) = true := by decide +kernel
theorem gWorth_t3 : ∀ a, a < 7 → ∀ b, b < 10 → b = 0 ∨ gIn (nI a * (10 - nI b) / 5) = true := by decide +kernel
theorem gWorth_t4 : ∀ a, a < 7 → ∀ b, b < 10 → b = 0 ∨ gIn (3 * (nI a * (10 - nI b)) / 5) = true := by decide +kernel
theorem gWorth_in {sz gr st cr : Int32} (hs : (0 : Int32) ≤ sz ∧ sz ≤ 6) (hg : (1 : Int32) ≤ gr ∧ gr ≤ 9) : ∃ x, x ≤ 162 ∧ gWorth sz gr st cr = nI x := by
  obtain ⟨a, ha, rfl⟩ := gI_of (n := 6) (by decide) hs
  obtain ⟨b, hb, rfl⟩ := gI_of (n := 9) (by decide) ⟨Int32.le_trans (by decide) hg.1, hg.2⟩
  have hb1 : 1 ≤ b := by
    rcases Nat.eq_zero_or_pos b with h | h
    · subst h; exact absurd hg.1 (by decide)
    · exact h
  have n0 : ¬ b = 0 := by omega
  have t1 := gIn_ok ((gWorth_t1 a (by omega) b (by omega)).resolve_left n0)
  have t2 := gIn_ok ((gWorth_t2 a (by omega) b (by omega)).resolve_left n0)
  have t3 := gIn_ok ((gWorth_t3 a (by omega) b (by omega)).resolve_left n0)
  have t4 := gIn_ok ((gWorth_t4 a (by omega) b (by omega)).resolve_left n0)
  refine gI_of (n := 162) (by decide) ?_
  unfold gWorth
  split
  · exact ⟨by decide, by decide⟩
  · split
    · split
      · exact t1
      · exact t2
    · split
      · exact t3
      · exact t4
theorem gAll_pos {Q : Nat → Nat → Int32} {nb nw : Nat} (hnw : nw ≤ 60) (hw : gWh Q nb nw) (hg : gGr Q nb) : (0 : Int32) ≤ gAll Q nw := by
  obtain ⟨y, hy, h⟩ := gS_in (g := fun j => gWorth (Q 11 j) (Q 10 j) (Q 13 j) (Q 12 j)) (M := 162) nw 0 0 (by omega) (fun j _ hj => by
    obtain ⟨b, hb, -, h2⟩ := hw.1 j (by omega)
    exact gWorth_in (hw.2.2.2 j) (by rw [h2]; exact hg b hb))
  show (0 : Int32) ≤ gS (fun j => gWorth (Q 11 j) (Q 10 j) (Q 13 j) (Q 12 j)) nw 0 (nI 0)
  rw [h]
  exact nI_pos' (by omega)
theorem gInv.wis {i : Nat} {Q : Nat → Nat → Int32} {nb nq nw day nr : Nat} {bo we : Nat → Int32} (I : gInv i Q nb nq nw day nr bo we) (q b dd : Nat) (hb : b < nb) : (0 : Int32) ≤ gWis Q nq nw day q b dd := by
  have hp : gPl (gAt Q q b) nb nq := gAt_pl I.hpl hb
  have hw : gWh (gAt Q q b) nb nw := gWh_ext I.hwh rfl rfl rfl rfl rfl rfl rfl
  exact gAll_pos (nb := nb) (gGo_nw nq dd _ nw day I.hnw) (gGo_wh I.hnb dd _ nw day hp (I.hsk.of rfl) hw) ((I.hgr.of rfl).of (gGo_6 nq dd (gAt Q q b) nw day 1 (by decide)))
theorem gInv.adv {i : Nat} {Q : Nat → Nat → Int32} {nb nq nw day nr : Nat} {bo we : Nat → Int32} (I : gInv i Q nb nq nw day nr bo we) (q dd : Nat) : gAdvM Q nq nw day q dd nb 0 (-1) (-1) = gAdv Q nq nw day q dd nb 0 (-1) 0 := gAdvM_eq I.hnb (fun b hb => I.wis q b dd hb)
