/-! What the class's own methods answer: rafts, looks ahead, digest. -/
def gStill (Q : Nat → Nat → Int32) (nw : Nat) (ca : Nat → Int32) (k : Nat) : Int32 := ca k - gS (fun j => if Q 14 j = nI k then 2 * Q 11 j * Q 11 j else 0) nw 0 0
def gOn (Q : Nat → Nat → Int32) (nw k : Nat) : Int32 := gS (fun j => if Q 14 j = nI k then 1 else 0) nw 0 0
def gRaft (Q : Nat → Nat → Int32) (nw day : Nat) (ca bo : Nat → Int32) (v k : Nat) : Int32 := if v = 0 then ca k else if v = 1 then gStill Q nw ca k else if v = 2 then gOn Q nw k else if nI day < bo k then 1 else 0
def gCntC (Q : Nat → Nat → Int32) (nq nw day : Nat) (co : Int32) (v : Nat) : Int32 := if v = 8 then co else gCnt Q nq nw day v
def gAll (Q : Nat → Nat → Int32) (nw : Nat) : Int32 := gS (fun j => gWorth (Q 11 j) (Q 10 j) (Q 13 j) (Q 12 j)) nw 0 0
/-- a copy of Q over T -/
def gCopy (Q T : Nat → Nat → Int32) (nb nq nw : Nat) : Nat → Nat → Int32 := fun j => match j with
  | 0 => gM 9 (Q 0) (T 0)
  | 1 => gM nb (Q 1) (T 1)
  | 2 => gM nb (Q 2) (T 2)
  | 3 => gM nb (Q 3) (T 3)
  | 4 => gM nb (Q 4) (T 4)
  | 5 => gM nq (Q 5) (T 5)
  | 6 => gM nq (Q 6) (T 6)
  | 7 => gM nq (Q 7) (T 7)
  | 8 => gM nq (Q 8) (T 8)
  | 9 => gM nw (Q 9) (T 9)
  | 10 => gM nw (Q 10) (T 10)
  | 11 => gM nw (Q 11) (T 11)
  | 12 => gM nw (Q 12) (T 12)
  | 13 => gM nw (Q 13) (T 13)
  | 14 => gM nw (Q 14) (T 14)
  | _ => T j
theorem gCopy_pl {Q T : Nat → Nat → Int32} {nb nq nw : Nat} (h : gPl Q nb nq) : gPl (gCopy Q T nb nq nw) nb nq := fun i hi => by
  show gM nq (Q 6) (T 6) i = -1 ∨ ∃ kk, kk < nb ∧ gM nq (Q 6) (T 6) i = nI kk
  rw [gM_lo hi]
  exact h i hi
/-- q sent to b, in a copy -/
def gSent (Q T : Nat → Nat → Int32) (nb nq nw q b : Nat) : Nat → Nat → Int32 := fun j => match j with
  | 6 => upd (gM nq (Q 6) (T 6)) q (nI b)
  | _ => gCopy Q T nb nq nw j
theorem gSent_pl {Q T : Nat → Nat → Int32} {nb nq nw q b : Nat} (h : gPl Q nb nq) (hb : b < nb) : gPl (gSent Q T nb nq nw q b) nb nq := fun i hi => by
  show upd (gM nq (Q 6) (T 6)) q (nI b) i = -1 ∨ ∃ kk, kk < nb ∧ upd (gM nq (Q 6) (T 6)) q (nI b) i = nI kk
  by_cases h1 : i = q
  · subst h1; rw [upd_at]; exact Or.inr ⟨b, hb, rfl⟩
  · rw [upd_ne h1, gM_lo hi]; exact h i hi
/-- the worth if q is sent to b, days on: over a trial T, and over the quarry itself -/
def gWif (Q T : Nat → Nat → Int32) (nb nq nw day q b dd : Nat) : Int32 := gAll (gGo nq dd (gSent Q T nb nq nw q b) nw day).1 (gGo nq dd (gSent Q T nb nq nw q b) nw day).2
/-- joined -/
def gJ (d : Int64) (x : Int32) : Int64 := d * 31 + x.toInt64
/-- g joined onto d, k of them from i on -/
def gD (g : Nat → Int32) : Nat → Nat → Int64 → Int64
  | 0, _, d => d
  | k + 1, i, d => gD g k (i + 1) (gJ d (g i))
/-- rows of m facts, k of them from i on -/
def gDD (m : Nat) (g : Nat → Nat → Int32) : Nat → Nat → Int64 → Int64
  | 0, _, d => d
  | k + 1, i, d => gDD m g k (i + 1) (gD (g i) m 0 d)
theorem gw_in {d n : Nat} (h : d ≤ n) (hn : n < 2 ^ 31) : (0 : Int32) ≤ nI d ∧ nI d ≤ nI n := ⟨nI_pos' (by omega), nI_le h hn⟩
theorem gw_in1 {d n : Nat} (h1 : 1 ≤ d) (h : d ≤ n) (hn : n < 2 ^ 31) : (1 : Int32) ≤ nI d ∧ nI d ≤ nI n := ⟨nI_le (a := 1) h1 (by omega), nI_le h hn⟩
/-- a wheel put on a raft -/
def gPut (Q : Nat → Nat → Int32) (k r : Nat) : Nat → Nat → Int32 := fun j => match j with
  | 13 => upd (Q 13) k 2
  | 14 => upd (Q 14) k (nI r)
  | _ => Q j
/-- the share of the wheels that have no crack -/
def gShare (Q : Nat → Nat → Int32) (nw : Nat) : UInt64 := if nw = 0 then 0 else FP.ddiv (FP.i2d (gS (fun j => if Q 12 j = 0 then 1 else 0) nw 0 0)) (FP.i2d (nI nw))
