/-! Words and rows for the law's act. -/
def adU0 (ad : Nat × Nat → Nat) (n q : Nat) : Nat × Nat → Nat := fun key => match key with
  | (0, k) => if k = n then q else ad (0, k)
  | (c, k) => ad (c, k)
theorem sRf_mo0 {ad : Nat × Nat → Nat} {n q : Nat} : moF (sRf ad 0 n) n q = sRf (adU0 ad n q) 0 (n + 1) := by
  funext k
  by_cases h : k = n
  · subst h; simp [moF, sRf, adU0]
  · by_cases h2 : k < n
    · have h3 : k < n + 1 := by omega
      simp [moF, sRf, adU0, h, h2, h3]
    · have h3 : ¬ k < n + 1 := by omega
      simp [moF, sRf, h, h2, h3]
theorem sK_n0 {nb nq nr nw : Nat} : (0, nb) ∉ sK nb nq nr nw := fun h => by
  rcases sK_mem.mp h with ⟨h, h'⟩ | ⟨h, h'⟩ | ⟨h, h'⟩ | ⟨h, h'⟩ <;> omega
def adU1 (ad : Nat × Nat → Nat) (n q : Nat) : Nat × Nat → Nat := fun key => match key with
  | (1, k) => if k = n then q else ad (1, k)
  | (c, k) => ad (c, k)
theorem sRf_mo1 {ad : Nat × Nat → Nat} {n q : Nat} : moF (sRf ad 1 n) n q = sRf (adU1 ad n q) 1 (n + 1) := by
  funext k
  by_cases h : k = n
  · subst h; simp [moF, sRf, adU1]
  · by_cases h2 : k < n
    · have h3 : k < n + 1 := by omega
      simp [moF, sRf, adU1, h, h2, h3]
    · have h3 : ¬ k < n + 1 := by omega
      simp [moF, sRf, h, h2, h3]
theorem sK_n1 {nb nq nr nw : Nat} : (1, nq) ∉ sK nb nq nr nw := fun h => by
  rcases sK_mem.mp h with ⟨h, h'⟩ | ⟨h, h'⟩ | ⟨h, h'⟩ | ⟨h, h'⟩ <;> omega
def adU2 (ad : Nat × Nat → Nat) (n q : Nat) : Nat × Nat → Nat := fun key => match key with
  | (2, k) => if k = n then q else ad (2, k)
  | (c, k) => ad (c, k)
theorem sRf_mo2 {ad : Nat × Nat → Nat} {n q : Nat} : moF (sRf ad 2 n) n q = sRf (adU2 ad n q) 2 (n + 1) := by
  funext k
  by_cases h : k = n
  · subst h; simp [moF, sRf, adU2]
  · by_cases h2 : k < n
    · have h3 : k < n + 1 := by omega
      simp [moF, sRf, adU2, h, h2, h3]
    · have h3 : ¬ k < n + 1 := by omega
      simp [moF, sRf, h, h2, h3]
theorem sK_n2 {nb nq nr nw : Nat} : (2, nr) ∉ sK nb nq nr nw := fun h => by
  rcases sK_mem.mp h with ⟨h, h'⟩ | ⟨h, h'⟩ | ⟨h, h'⟩ | ⟨h, h'⟩ <;> omega
theorem r4_mk {a b c d : Int32} : upd (upd (upd (upd (fun _ => 0) 0 a) 1 b) 2 c) 3 d = r4 a b c d := by
  funext j; rcases j with _ | _ | _ | _ | j <;> simp [upd, r4]
theorem r2_mk {a b : Int32} : upd (upd (fun _ => 0) 0 a) 1 b = r2 a b := by
  funext j; rcases j with _ | _ | j <;> simp [upd, r2]
theorem sU_n0 {ad : Nat × Nat → Nat} {cI : ClassId} {q1 q2 q3 q4 q5 q6 q7 q8 q9 qb qc qd ca sv rl : Nat → Int32} {n q : Nat} {v0 v1 v2 v3 : Int32} : gUp (sF ad (sEn cI q1 q2 q3 q4 q5 q6 q7 q8 q9 qb qc qd ca sv rl)) (0, n) (q, .inl (cI, 4, .inl (upd (upd (upd (upd (fun _ => 0) 0 v0) 1 v1) 2 v2) 3 v3))) = sF (adU0 ad n q) (sEn cI (upd q1 n v0) (upd q2 n v1) (upd q3 n v2) (upd q4 n v3) q5 q6 q7 q8 q9 qb qc qd ca sv rl) := by
  rw [r4_mk]
  funext key
  obtain ⟨c, j⟩ := key
  by_cases e : (c, j) = (0, n)
  · cases e
    simp [gUp, sF, sEn, adU0, upd_at]
  · show (if (c, j) = (0, n) then _ else _) = _
    rw [if_neg e]
    rcases c with _ | _ | _ | _ | c
    · have e2 : j ≠ n := fun h => e (by rw [h])
      simp [sF, sEn, adU0, e2, upd_ne e2]
    · rfl
    · rfl
    · rfl
    · rfl
theorem sU_n1 {ad : Nat × Nat → Nat} {cI : ClassId} {q1 q2 q3 q4 q5 q6 q7 q8 q9 qb qc qd ca sv rl : Nat → Int32} {n q : Nat} {v0 v1 v2 v3 : Int32} : gUp (sF ad (sEn cI q1 q2 q3 q4 q5 q6 q7 q8 q9 qb qc qd ca sv rl)) (1, n) (q, .inl (cI, 4, .inl (upd (upd (upd (upd (fun _ => 0) 0 v0) 1 v1) 2 v2) 3 v3))) = sF (adU1 ad n q) (sEn cI q1 q2 q3 q4 (upd q5 n v0) (upd q6 n v1) (upd q7 n v2) (upd q8 n v3) q9 qb qc qd ca sv rl) := by
  rw [r4_mk]
  funext key
  obtain ⟨c, j⟩ := key
  by_cases e : (c, j) = (1, n)
  · cases e
    simp [gUp, sF, sEn, adU1, upd_at]
  · show (if (c, j) = (1, n) then _ else _) = _
    rw [if_neg e]
    rcases c with _ | _ | _ | _ | c
    · rfl
    · have e2 : j ≠ n := fun h => e (by rw [h])
      simp [sF, sEn, adU1, e2, upd_ne e2]
    · rfl
    · rfl
    · rfl
theorem sU_n2 {ad : Nat × Nat → Nat} {cI : ClassId} {q1 q2 q3 q4 q5 q6 q7 q8 q9 qb qc qd ca sv rl : Nat → Int32} {n q : Nat} {v0 v1 : Int32} : gUp (sF ad (sEn cI q1 q2 q3 q4 q5 q6 q7 q8 q9 qb qc qd ca sv rl)) (2, n) (q, .inl (cI, 2, .inl (upd (upd (fun _ => 0) 0 v0) 1 v1))) = sF (adU2 ad n q) (sEn cI q1 q2 q3 q4 q5 q6 q7 q8 q9 qb qc qd (upd ca n v0) (upd sv n v1) rl) := by
  rw [r2_mk]
  funext key
  obtain ⟨c, j⟩ := key
  by_cases e : (c, j) = (2, n)
  · cases e
    simp [gUp, sF, sEn, adU2, upd_at]
  · show (if (c, j) = (2, n) then _ else _) = _
    rw [if_neg e]
    rcases c with _ | _ | _ | _ | c
    · rfl
    · rfl
    · have e2 : j ≠ n := fun h => e (by rw [h])
      simp [sF, sEn, adU2, e2, upd_ne e2]
    · rfl
    · rfl
theorem gPD_swap {D : va_G} {cl : List vw_C} {P : Nat → Prop} {H : Heap} {A B R L : va_W} {o n : Nat × va_E} (hP : va_P D cl ((A ++ (o :: B)) ++ ((n :: R) ++ L)) H) (hD : va_D P ((A ++ (o :: B)) ++ ((n :: R) ++ L))) : va_P D cl ((A ++ (n :: B)) ++ (R ++ L)) H ∧ va_D P ((A ++ (n :: B)) ++ (R ++ L)) := by
  obtain ⟨hP1, hD1⟩ := gPD_sub (ws' := (A ++ B) ++ (n :: (R ++ L))) (List.Sublist.append (List.Sublist.append (List.Sublist.refl A) (List.sublist_cons_self o B)) (List.Sublist.refl _)) hP hD
  refine gPD_perm ?_ hP1 hD1
  rw [List.append_assoc, List.append_assoc]
  refine List.Perm.append_left A ?_
  exact List.perm_middle
theorem upd_same {f : Nat → Int32} {k : Nat} {v : Int32} (h : f k = v) : upd f k v = f := by
  funext j
  by_cases e : j = k
  · subst e; rw [upd_at, h]
  · rw [upd_ne e]
theorem sx_send {b nb : Nat} (h : b < nb + 1) : nI b - 1 = -1 ∨ ∃ kk, kk < nb ∧ nI b - 1 = nI kk := by
  cases b with
  | zero => exact Or.inl (by decide)
  | succ b => exact Or.inr ⟨b, by omega, nI_pred b⟩
theorem sk_yes {Q : Nat → Nat → Int32} {nb nq nw nr w r : Nat} {ca sv rl : Nat → Int32} (h : pX Q nb nq nw nr ca sv rl) (hw : w < nw) (h1 : Q 13 w = 2) (h2 : rl w = nI r) : Q 14 w = nI r := by
  rcases h.e14 w hw with ⟨-, h3, -⟩ | ⟨h3, -⟩
  · rw [h3, h2]
  · exact absurd h1 h3
theorem sk_no1 {Q : Nat → Nat → Int32} {nb nq nw nr w r : Nat} {ca sv rl : Nat → Int32} (h : pX Q nb nq nw nr ca sv rl) (hr : r < 2 ^ 31) (hw : w < nw) (h1 : ¬ Q 13 w = 2) : ¬ Q 14 w = nI r := by
  rcases h.e14 w hw with ⟨h3, -⟩ | ⟨-, h3⟩
  · exact absurd h3 h1
  · rw [h3]; exact fun e => gw_nIm1 hr e.symm
theorem sk_no2 {Q : Nat → Nat → Int32} {nb nq nw nr w r : Nat} {ca sv rl : Nat → Int32} (h : pX Q nb nq nw nr ca sv rl) (hr : r < 2 ^ 31) (hw : w < nw) (h2 : ¬ rl w = nI r) : ¬ Q 14 w = nI r := by
  rcases h.e14 w hw with ⟨-, h3, -⟩ | ⟨-, h3⟩
  · rw [h3]; exact h2
  · rw [h3]; exact fun e => gw_nIm1 hr e.symm
theorem sk_1 {z : Int32} (h0 : 0 ≤ z) (h : ¬ 1 < z) : z < 2 ∧ (z = 0 ∨ z = 1) := by
  rw [Int32.lt_iff_toInt_lt] at h ⊢
  rw [Int32.le_iff_toInt_le] at h0
  have e0 : (0 : Int32).toInt = 0 := by decide
  have e1 : (1 : Int32).toInt = 1 := by decide
  have e2 : (2 : Int32).toInt = 2 := by decide
  refine ⟨by omega, ?_⟩
  rcases (show z.toInt = 0 ∨ z.toInt = 1 by omega) with e | e
  · exact Or.inl (Int32.toInt_inj.mp (e.trans e0.symm))
  · exact Or.inr (Int32.toInt_inj.mp (e.trans e1.symm))
/-- a raft that Sim doesn't count as away -/
theorem sk_away {i : Nat} {Q : Nat → Nat → Int32} {nb nq nw day nr : Nat} {bo sv : Nat → Int32} (I : gInv i Q nb nq nw day nr bo sv) {r : Nat} (hr : r < nr) (h : ¬ 0 ≤ sv r) : sv r = -1 := by
  rcases I.hrf.1 r hr with ⟨g, h1, -, h3, -⟩ | ⟨h1, -⟩
  · have hd := I.hday
    have hi := I.hi
    rw [h1] at h; exact absurd (nI_pos' (by omega)) h
  · exact h1
/-- the law's world -/
def lW (ts : va_W) (a : Nat → Nat) (si fa ob op oc ow : Nat) (ad : Nat × Nat → Nat) (cI cZ cW cO : ClassId) (Q T : Nat → Nat → Int32) (nb nq nw nr day nbt nqt nwt dayt : Nat) (co : Int32) (ca bo sv rl : Nat → Int32) : va_W :=
  sW si fa ob op oc ow cI cW cO (Q 0) nb nq nr (sRf ad 0 nb) (sRf ad 1 nq) (sRf ad 2 nr) (sRf ad 3 nw) (nI nw) (nI day) co ++ ((ts ++ gG a cI cZ Q T nb nq nw nr day nbt nqt nwt dayt co ca bo) ++ sPl nb nq nr nw ad (sEn cI (Q 1) (Q 2) (Q 3) (Q 4) (Q 5) (Q 6) (Q 7) (Q 8) (Q 9) (Q 11) (Q 12) (Q 13) ca sv rl))
/-- the law's world behind a call by hand -/
def aOut (D : va_G) (A : Nat → Prop) (cI cZ cW cO : ClassId) (ts : va_W) (a : Nat → Nat) (si fa ow : Nat) (T : Nat → Nat → Int32) (nbt nqt nwt dayt i : Nat) (Q : Nat → Nat → Int32) (nw day nr : Nat) (co : Int32) (t : State) : Prop :=
  ∃ (ob op oc : Nat) (ad : Nat × Nat → Nat) (Q' : Nat → Nat → Int32) (nb' nq' nr' : Nat) (co' : Int32) (ca' bo' sv' rl' : Nat → Int32),
    va_P D vwCl (lW ts a si fa ob op oc ow ad cI cZ cW cO Q' T nb' nq' nw nr' day nbt nqt nwt dayt co' ca' bo' sv' rl') t.heap ∧ va_D A (lW ts a si fa ob op oc ow ad cI cZ cW cO Q' T nb' nq' nw nr' day nbt nqt nwt dayt co' ca' bo' sv' rl') ∧
    gInv i Q' nb' nq' nw day nr' bo' sv' ∧ pX Q' nb' nq' nw nr' ca' sv' rl' ∧ aChk Q nw co Q' co' ∧ nr ≤ nr'
