/-! WHAT EACH CALL ANSWERS AND LEAVES, over the state that both sides hold. Fields by number: 0 thrown, 1 fault, 2 kind, 3 which, 4 byteRows, 5 byteLong, 6 byteCell, 7 signRows, 8 signLong, 9 signCell, 10 rowRows, 11 rowLong, 12 rowCell, 13 tables, 14 keeps, 15 slots, 16 terms, 17 probes, 18 grew, 19 slotOf, 20 termOf, 21 keptMany, 22 keptRow, 23 allProbes, 24 looks, 25 hands -/
abbrev pl (p : Int32) : Nat := p.toNatClampNeg
theorem isP_j {p : Int32} (h : isP p) : ∃ j, j < 10 ∧ p = nI j := by
  obtain ⟨j, h1, h2⟩ := nI_of2 (x := p) (M := 9) (n := 9) rfl (by rw [Int32.lt_iff_toInt_lt]; have := h.1; rw [Int32.le_iff_toInt_le] at this; omega) h.2
  exact ⟨j, by omega, h2⟩
abbrev inR (i : Int32) (n : Nat) : Prop := nI 0 ≤ i ∧ i ≤ nI n - nI 1
theorem inR_j {i : Int32} {n : Nat} (hn : n < 2 ^ 30) : inR i n ↔ ∃ j, j < n ∧ i = nI j := by
  have h1 := pk_sub_toInt (a := n) (b := 1) hn (by decide)
  constructor
  · intro h
    have a := h.1
    have b := h.2
    rw [Int32.le_iff_toInt_le] at a b
    rw [h1] at b
    rw [nI_toInt (by decide)] at a
    obtain ⟨j, h2, h3⟩ := nI_of (x := i) (by rw [Int32.lt_iff_toInt_lt, Int32.toInt_zero]; omega)
    rw [h3, nI_toInt h2] at b
    exact ⟨j, by omega, h3⟩
  · rintro ⟨j, h2, rfl⟩
    refine ⟨nI_le (by omega) (by omega), ?_⟩
    rw [Int32.le_iff_toInt_le, h1, nI_toInt (by omega)]
    omega
abbrev thS (S : aS) : aS := aSc S 0 0
abbrev fltS (S : aS) (f : Nat) : aS := aSc S 1 f
abbrev fA (f : Nat) : Int32 := (-10) - nI f
abbrev noL : Int64 := -9223372036854775808
abbrev kd (S : aS) (j : Nat) : Nat := S.2.1 2 j
abbrev wh (S : aS) (j : Nat) : Nat := S.2.1 3 j
abbrev holdS (S : aS) (j k w : Nat) : aS := aN (aN S 2 j k) 3 j w
abbrev isO (S : aS) (j t : Nat) : Prop := (t = 4 ∧ 3 < kd S j) ∨ (t ≠ 4 ∧ kd S j = t)
def castF (S : aS) (j t : Nat) : Nat := if kd S j = 0 then 1 else if isO S j t then 0 else 2
def longS (S : aS) (j : Nat) : Nat := if kd S j = 1 then S.2.1 5 (wh S j) else if kd S j = 2 then S.2.1 8 (wh S j) else S.2.1 11 (wh S j)
def atS (S : aS) (j i : Nat) : Int32 := if kd S j = 1 then S.2.2 6 (16 * wh S j + i) else if kd S j = 2 then S.2.2 9 (16 * wh S j + i) else nI (S.2.1 12 (16 * wh S j + i))
def aNr (S : aS) (k base len : Nat) (g : Nat → Nat) : aS := (S.1, va_up S.2.1 k (fun j => if base ≤ j ∧ j < base + len then g (j - base) else S.2.1 k j), S.2.2)
theorem aNr_0 {S : aS} {k base : Nat} {g : Nat → Nat} : aNr S k base 0 g = S := by
  unfold aNr
  have : va_up S.2.1 k (fun j => if base ≤ j ∧ j < base + 0 then g (j - base) else S.2.1 k j) = S.2.1 := by
    funext i
    by_cases hi : i = k
    · subst hi; rw [va_up_self]; funext j; rw [if_neg (by omega)]
    · rw [va_up_ne _ _ hi]
  rw [this]
theorem aNr_s {S : aS} {k base i : Nat} {g : Nat → Nat} : aN (aNr S k base i g) k (base + i) (g i) = aNr S k base (i + 1) g := by
  unfold aNr aN
  congr 2
  funext z
  by_cases hz : z = k
  · subst hz
    rw [va_up_self]
    dsimp only
    rw [va_up_self, va_up_self]
    funext j
    by_cases hj : j = base + i
    · subst hj; rw [va_up_self, if_pos (by omega)]; congr 1; omega
    · rw [va_up_ne _ _ hj]
      by_cases hb : base ≤ j ∧ j < base + i
      · rw [if_pos hb, if_pos (by omega)]
      · rw [if_neg hb, if_neg (by omega)]
  · rw [va_up_ne _ _ hz]
    dsimp only
    rw [va_up_ne _ _ hz, va_up_ne _ _ hz]
def twinB (S : aS) (r : Nat) : aS := aWr (newB S (S.2.1 5 r)) 6 (16 * S.1 4) 16 (fun k => S.2.2 6 (16 * r + k))
def newSg (S : aS) (n : Nat) (g : Nat → Int32) : aS := aWr (aN S 8 (S.1 7) n) 9 (16 * S.1 7) 16 g
def newRw (S : aS) (n : Nat) (g : Nat → Nat) : aS := aNr (aN S 11 (S.1 10) n) 12 (16 * S.1 10) 16 g
def s_fault (S : aS) : Int32 × aS := (nI (S.1 1), thS S)
def s_make (S : aS) (p k n : Int32) : Int32 × aS :=
  if isP p then
    if nI 1 ≤ k ∧ k ≤ nI 3 then
      if n ≤ nI 16 then
        if n < 0 then (fA 5, fltS (thS S) 5)
        else if k = nI 1 then (nI 1, holdS (newB (thS S) (pl n)) (pl p) 1 (S.1 4))
        else if k = nI 2 then (nI 1, aSc (holdS (newSg (thS S) (pl n) (fun _ => 0)) (pl p) 2 (S.1 7)) 7 (S.1 7 + 1))
        else (nI 1, aSc (holdS (newRw (thS S) (pl n) (fun _ => 0)) (pl p) 3 (S.1 10)) 10 (S.1 10 + 1))
      else (-2, thS S)
    else (-2, thS S)
  else (-1, thS S)
def szF (n : Nat) : Nat := if n ≤ 4 then 4 else if n ≤ 8 then 8 else if n ≤ 16 then 16 else if n ≤ 32 then 32 else 64
def newT (S : aS) (kb size : Nat) : aS := aNr (aN (aN (aN (aN (aN (aSc S 13 (S.1 13 + 1)) 14 (S.1 13) kb) 15 (S.1 13) size) 16 (S.1 13) 0) 17 (S.1 13) 0) 18 (S.1 13) 0) 19 (256 * S.1 13) 256 (fun _ => 0)
def s_table (S : aS) (p : Int32) (kb : Nat) (n : Int32) : Int32 × aS :=
  if isP p then
    if nI 1 ≤ n ∧ n ≤ nI 64 then (nI (szF (pl n)), holdS (newT (thS S) kb (szF (pl n))) (pl p) (if kb = 0 then 4 else 5) (S.1 13))
    else (-2, thS S)
  else (-1, thS S)
def s_move (S : aS) (p q : Int32) : Int32 × aS :=
  if isP p then
    if q = -1 then (nI 0, holdS (thS S) (pl p) 0 0)
    else if isP q then (nI (kd S (pl q)), holdS (thS S) (pl p) (kd S (pl q)) (wh S (pl q)))
    else (-1, thS S)
  else (-1, thS S)
def s_held (S : aS) (p w : Int32) : Int32 × aS :=
  if isP p then
    if nI 0 ≤ w ∧ w ≤ nI 5 then (if w = 0 then nI (kd S (pl p)) else bI (isO S (pl p) (pl w)), thS S)
    else (-2, thS S)
  else (-1, thS S)
def s_same (S : aS) (p q : Int32) : Int32 × aS :=
  if isP p then
    if isP q then (bI (kd S (pl p) = kd S (pl q) ∧ (kd S (pl p) = 0 ∨ wh S (pl p) = wh S (pl q))), thS S)
    else (-1, thS S)
  else (-1, thS S)
def s_length (S : aS) (p t : Int32) : Int32 × aS :=
  if isP p then
    if nI 1 ≤ t ∧ t ≤ nI 3 then
      if 0 < castF S (pl p) (pl t) then (fA (castF S (pl p) (pl t)), fltS (thS S) (castF S (pl p) (pl t)))
      else (nI (longS S (pl p)), thS S)
    else (-2, thS S)
  else (-1, thS S)
def s_get (S : aS) (p t i : Int32) : Int64 × aS :=
  if isP p then
    if nI 1 ≤ t ∧ t ≤ nI 2 then
      if 0 < castF S (pl p) (pl t) then (noL, fltS (thS S) (castF S (pl p) (pl t)))
      else if inR i (longS S (pl p)) then ((atS S (pl p) (pl i)).toInt64, thS S)
      else (noL, fltS (thS S) 3)
    else (noL, thS S)
  else (noL, thS S)
def s_set (S : aS) (p t i v : Int32) : Int32 × aS :=
  if isP p then
    if nI 1 ≤ t ∧ t ≤ nI 2 then
      if 0 < castF S (pl p) (pl t) then (fA (castF S (pl p) (pl t)), fltS (thS S) (castF S (pl p) (pl t)))
      else if inR i (longS S (pl p)) then
        if t = nI 1 then (nI 1, aW (thS S) 6 (16 * wh S (pl p) + pl i) v.toInt8.toInt32)
        else (nI 1, aW (thS S) 9 (16 * wh S (pl p) + pl i) (v &&& nI 65535))
      else (fA 3, fltS (thS S) 3)
    else (-2, thS S)
  else (-1, thS S)
def s_lay (S : aS) (p i q : Int32) : Int32 × aS :=
  if isP p then
   if isP q then
      if castF S (pl p) 3 = 2 ∨ castF S (pl q) 1 = 2 then (fA 2, fltS (thS S) 2)
      else if 0 < castF S (pl p) 3 then (fA (castF S (pl p) 3), fltS (thS S) (castF S (pl p) 3))
      else if inR i (longS S (pl p)) then (nI 1, aN (thS S) 12 (16 * wh S (pl p) + pl i) (if kd S (pl q) = 0 then 0 else wh S (pl q) + 1))
      else (fA 3, fltS (thS S) 3)
   else (-1, thS S)
  else (-1, thS S)
def s_take (S : aS) (p q i : Int32) : Int32 × aS :=
  if isP p then
   if isP q then
      if 0 < castF S (pl q) 3 then (fA (castF S (pl q) 3), fltS (thS S) (castF S (pl q) 3))
      else if inR i (longS S (pl q)) then
        if S.2.1 12 (16 * wh S (pl q) + pl i) = 0 then (-3, holdS (thS S) (pl p) 0 0)
        else (nI (S.2.1 5 (S.2.1 12 (16 * wh S (pl q) + pl i) - 1)), holdS (thS S) (pl p) 1 (S.2.1 12 (16 * wh S (pl q) + pl i) - 1))
      else (fA 3, fltS (thS S) 3)
   else (-1, thS S)
  else (-1, thS S)
def s_cell (S : aS) (p i j : Int32) : Int64 × aS :=
  if isP p then
    if 0 < castF S (pl p) 3 then (noL, fltS (thS S) (castF S (pl p) 3))
    else if inR i (longS S (pl p)) then
      if S.2.1 12 (16 * wh S (pl p) + pl i) = 0 then (noL, fltS (thS S) 1)
      else if inR j (S.2.1 5 (S.2.1 12 (16 * wh S (pl p) + pl i) - 1)) then ((S.2.2 6 (16 * (S.2.1 12 (16 * wh S (pl p) + pl i) - 1) + pl j)).toInt64, thS S)
      else (noL, fltS (thS S) 3)
    else (noL, fltS (thS S) 3)
  else (noL, thS S)
def cpyS (S : aS) (j a q b n : Nat) : aS :=
  if kd S j = 1 then aWr (aWr S 25 0 n (fun i => atS S j (a + i))) 6 (16 * wh S q + b) n (fun i => atS S j (a + i))
  else if kd S j = 2 then aWr (aWr S 25 0 n (fun i => atS S j (a + i))) 9 (16 * wh S q + b) n (fun i => atS S j (a + i))
  else aNr (aWr S 25 0 n (fun i => atS S j (a + i))) 12 (16 * wh S q + b) n (fun i => S.2.1 12 (16 * wh S j + (a + i)))
def s_copy (S : aS) (p a q b n : Int32) : Int32 × aS :=
  if isP p then
   if isP q then
      if kd S (pl p) = 0 ∨ kd S (pl q) = 0 then (fA 1, fltS (thS S) 1)
      else if 3 < kd S (pl p) ∨ kd S (pl p) ≠ kd S (pl q) then (fA 4, fltS (thS S) 4)
      else if a < 0 then (fA 3, fltS (thS S) 3)
      else if b < 0 then (fA 3, fltS (thS S) 3)
      else if n < 0 then (fA 3, fltS (thS S) 3)
      else if nI (longS S (pl p)) - n < a then (fA 3, fltS (thS S) 3)
      else if ¬ b ≤ nI (longS S (pl q)) - n then (fA 3, fltS (thS S) 3)
      else (nI 1, cpyS (thS S) (pl p) (pl a) (pl q) (pl b) (pl n))
   else (-1, thS S)
  else (-1, thS S)
def s_twin (S : aS) (p q : Int32) : Int32 × aS :=
  if isP p then
   if isP q then
      if kd S (pl q) = 0 then (fA 1, fltS (thS S) 1)
      else if 3 < kd S (pl q) then (fA 2, fltS (thS S) 2)
      else if kd S (pl q) = 1 then (nI (longS S (pl q)), holdS (twinB (thS S) (wh S (pl q))) (pl p) 1 (S.1 4))
      else if kd S (pl q) = 2 then (nI (longS S (pl q)), aSc (holdS (newSg (thS S) (longS S (pl q)) (fun k => S.2.2 9 (16 * wh S (pl q) + k))) (pl p) 2 (S.1 7)) 7 (S.1 7 + 1))
      else (nI (longS S (pl q)), aSc (holdS (newRw (thS S) (longS S (pl q)) (fun k => S.2.1 12 (16 * wh S (pl q) + k))) (pl p) 3 (S.1 10)) 10 (S.1 10 + 1))
   else (-1, thS S)
  else (-1, thS S)
abbrev likB (S : aS) (a b : Nat) : Prop := S.2.1 5 a = S.2.1 5 b ∧ ∀ k, k < S.2.1 5 a → S.2.2 6 (16 * a + k) = S.2.2 6 (16 * b + k)
abbrev likP (S : aS) (j q : Nat) : Prop := (kd S j = kd S q ∧ longS S j = longS S q) ∧ ∀ i, i < longS S j → atS S j i = atS S q i
def s_like (S : aS) (p q : Int32) : Int32 × aS :=
  if isP p then
   if isP q then
      if kd S (pl p) = 0 ∨ kd S (pl q) = 0 then (fA 1, fltS (thS S) 1)
      else if 2 < kd S (pl p) ∨ 2 < kd S (pl q) then (fA 2, fltS (thS S) 2)
      else (bI (likP S (pl p) (pl q)), thS S)
   else (-1, thS S)
  else (-1, thS S)
def hsh (g : Nat → Int32) : Nat → Int32
  | 0 => nI 0
  | n + 1 => nI 31 * hsh g n + g n
def s_hash (S : aS) (p : Int32) : Int64 × aS :=
  if isP p then
    if kd S (pl p) = 0 then (noL, fltS (thS S) 1)
    else if 2 < kd S (pl p) then (noL, fltS (thS S) 2)
    else ((hsh (atS S (pl p)) (longS S (pl p))).toInt64, thS S)
  else (noL, thS S)
def agl (d : Nat → Int32) (tail : Int32) : Nat → Nat → Int32
  | 0, _ => tail
  | m + 1, k => if d k = 0 then agl d tail m (k + 1) else d k
def agst (S : aS) (a b : Nat) : Int32 :=
  agl (fun k => (S.2.2 6 (16 * a + k) &&& nI 255) - (S.2.2 6 (16 * b + k) &&& nI 255)) (nI (S.2.1 5 a) - nI (S.2.1 5 b)) (if S.2.1 5 a < S.2.1 5 b then S.2.1 5 a else S.2.1 5 b) 0
def s_order (S : aS) (p q : Int32) : Int32 × aS :=
  if isP p then
   if isP q then
      if castF S (pl p) 1 = 2 ∨ castF S (pl q) 1 = 2 then (fA 2, fltS (thS S) 2)
      else if 0 < castF S (pl p) 1 ∨ 0 < castF S (pl q) 1 then (fA 1, fltS (thS S) 1)
      else (if agst S (wh S (pl p)) (wh S (pl q)) < 0 then -101 else if 0 < agst S (wh S (pl p)) (wh S (pl q)) then -99 else -100, thS S)
   else (-1, thS S)
  else (-1, thS S)
def pairS (S : aS) (j i : Nat) : Nat := if atS S j i = nI 65 ∧ atS S j (i + 1) = nI 97 then 1 else if atS S j i = nI 66 ∧ atS S j (i + 1) = nI 66 then 2 else 0
def namS (S : aS) (j : Nat) : Nat :=
  if longS S j = 0 then 8
  else if longS S j = 2 then (if atS S j 0 = nI 105 ∧ atS S j 1 = nI 100 then 7 else pairS S j 0)
  else if longS S j = 4 then (if pairS S j 0 = 0 ∨ pairS S j 2 = 0 then 0 else 2 * pairS S j 0 + pairS S j 2)
  else 0
def s_named (S : aS) (p : Int32) : Int32 × aS :=
  if isP p then
    if kd S (pl p) = 0 then (fA 1, fltS (thS S) 1)
    else if 2 < kd S (pl p) then (fA 2, fltS (thS S) 2)
    else (nI (namS S (pl p)), thS S)
  else (-1, thS S)
def hshO (S : aS) (r : Nat) : Int32 := hsh (fun k => S.2.2 6 (16 * r + k)) (S.2.1 5 r) ^^^ ((hsh (fun k => S.2.2 6 (16 * r + k)) (S.2.1 5 r)).toUInt32 >>> ((nI 16).toUInt32 &&& Int32.toUInt32 31)).toInt32
/-- the SLOT from which a row is looked for -/
def fst0 (S : aS) (t r : Nat) : Nat := (hshO S r).toBitVec.toNat % S.2.1 15 t
abbrev stp (S : aS) (t r i : Nat) : Prop := S.2.1 19 (256 * t + i) = 0 ∨ likB S (S.2.1 20 (100 * t + (S.2.1 19 (256 * t + i) - 1))) r
def lkG (S : aS) (t r : Nat) : Nat → Nat → Nat → Nat × Nat
  | 0, i, n => (i, n)
  | m + 1, i, n => if stp S t r i then (i, n) else lkG S t r m ((i + 1) % S.2.1 15 t) (n + 1)
def lk (S : aS) (t r : Nat) : Nat × Nat := lkG S t r (S.2.1 15 t) (fst0 S t r) 1
def lkS (S : aS) (t r : Nat) : aS := aSc (aSc (aN S 17 t (lk S t r).2) 23 (S.1 23 + (lk S t r).2)) 24 (S.1 24 + 1)
/-- the eldest kept row that is LIKE r, from k on -/
def kpG (S : aS) (r : Nat) : Nat → Nat → Option Nat
  | 0, _ => none
  | m + 1, k => if likB S (S.2.1 22 k) r then some (S.2.1 22 k) else kpG S r m (k + 1)
def keptS (S : aS) (r : Nat) : Nat × aS := match kpG S r (S.1 21) 0 with
  | some w => (w, S)
  | none => (S.1 4, aSc (aN (twinB S r) 22 (S.1 21) (S.1 4)) 21 (S.1 21 + 1))
def frG (S : aS) (t : Nat) : Nat → Nat → Nat
  | 0, i => i
  | m + 1, i => if S.2.1 19 (256 * t + i) = 0 then i else frG S t m ((i + 1) % S.2.1 15 t)
def putT (S : aS) (t k : Nat) : aS := aN S 19 (256 * t + frG S t (S.2.1 15 t) (fst0 S t (S.2.1 20 (100 * t + k)))) (k + 1)
def putsT (S : aS) (t : Nat) : Nat → aS
  | 0 => S
  | k + 1 => putT (putsT S t k) t k
/-- twice as many SLOTS, all with none -/
def clrT (S : aS) (t : Nat) : aS := aNr (aN (aN S 15 t (S.2.1 15 t * 2)) 18 t (S.2.1 18 t + 1)) 19 (256 * t) (S.2.1 15 t * 2) (fun _ => 0)
def growS (S : aS) (t : Nat) : aS :=
  putsT (clrT S t) t (S.2.1 16 t)
def rowF (S : aS) (t r : Nat) : Nat × aS := if S.2.1 14 t = 0 then (S.1 4, twinB S r) else keptS S r
/-- a new TERM: the row w that the TABLE has for it is put into SLOT i -/
def newTm (S : aS) (t w i : Nat) : aS := aN (aN (aN S 20 (100 * t + S.2.1 16 t) w) 19 (256 * t + i) (S.2.1 16 t + 1)) 16 t (S.2.1 16 t + 1)
def grwS (S : aS) (t : Nat) : aS := if 3 * S.2.1 15 t < 4 * S.2.1 16 t then growS S t else S
def comS (S : aS) (t r : Nat) : Int32 × aS :=
  if 0 < S.2.1 19 (256 * t + (lk S t r).1) then (nI (S.2.1 19 (256 * t + (lk S t r).1) - 1), lkS S t r)
  else if S.2.1 16 t = 100 then (-4, lkS S t r)
  else (nI (S.2.1 16 t), grwS (newTm (rowF (lkS S t r) t r).2 t (rowF (lkS S t r) t r).1 (lk S t r).1) t)
def bthF (S : aS) (j q t : Nat) : Nat := if castF S j 4 = 2 ∨ castF S q t = 2 then 2 else if castF S j 4 = 1 ∨ castF S q t = 1 then 1 else 0
def s_add (S : aS) (p q : Int32) : Int32 × aS :=
  if isP p then
   if isP q then
      if 0 < bthF S (pl p) (pl q) 1 then (fA (bthF S (pl p) (pl q) 1), fltS (thS S) (bthF S (pl p) (pl q) 1))
      else comS (thS S) (wh S (pl p)) (wh S (pl q))
   else (-1, thS S)
  else (-1, thS S)
def s_find (S : aS) (p q : Int32) : Int32 × aS :=
  if isP p then
   if isP q then
      if 0 < bthF S (pl p) (pl q) 1 then (fA (bthF S (pl p) (pl q) 1), fltS (thS S) (bthF S (pl p) (pl q) 1))
      else (if 0 < S.2.1 19 (256 * wh S (pl p) + (lk (thS S) (wh S (pl p)) (wh S (pl q))).1) then nI (S.2.1 19 (256 * wh S (pl p) + (lk (thS S) (wh S (pl p)) (wh S (pl q))).1) - 1) else -3, lkS (thS S) (wh S (pl p)) (wh S (pl q)))
   else (-1, thS S)
  else (-1, thS S)
def s_term (S : aS) (p q k : Int32) : Int32 × aS :=
  if isP p then
   if isP q then
      if 0 < castF S (pl q) 4 then (fA (castF S (pl q) 4), fltS (thS S) (castF S (pl q) 4))
      else if inR k (S.2.1 16 (wh S (pl q))) then (nI (S.2.1 5 (S.2.1 20 (100 * wh S (pl q) + pl k))), holdS (thS S) (pl p) 1 (S.2.1 20 (100 * wh S (pl q) + pl k)))
      else (fA 3, fltS (thS S) 3)
   else (-1, thS S)
  else (-1, thS S)
def s_told (S : aS) (p w : Int32) : Int32 × aS :=
  if isP p then
    if nI 0 ≤ w ∧ w ≤ nI 3 then
      if 0 < castF S (pl p) 4 then (fA (castF S (pl p) 4), fltS (thS S) (castF S (pl p) 4))
      else (if w = 0 then nI (S.2.1 16 (wh S (pl p))) else if w = nI 1 then nI (S.2.1 15 (wh S (pl p))) else if w = nI 2 then nI (S.2.1 17 (wh S (pl p))) else nI (S.2.1 18 (wh S (pl p))), thS S)
    else (-2, thS S)
  else (-1, thS S)
def s_slot (S : aS) (p i : Int32) : Int32 × aS :=
  if isP p then
    if 0 < castF S (pl p) 4 then (fA (castF S (pl p) 4), fltS (thS S) (castF S (pl p) 4))
    else if inR i (S.2.1 15 (wh S (pl p))) then (if S.2.1 19 (256 * wh S (pl p) + pl i) = 0 then -3 else nI (S.2.1 19 (256 * wh S (pl p) + pl i) - 1), thS S)
    else (fA 3, fltS (thS S) 3)
  else (-1, thS S)
/-- TERM j stands ahead of TERM k -/
abbrev ahd (S : aS) (t j k : Nat) : Prop := agst S (S.2.1 20 (100 * t + j)) (S.2.1 20 (100 * t + k)) < 0 ∨ (agst S (S.2.1 20 (100 * t + j)) (S.2.1 20 (100 * t + k)) = 0 ∧ j < k)
def ahC (S : aS) (t k : Nat) : Nat → Nat
  | 0 => 0
  | j + 1 => ahC S t k j + (if ahd S t j k then 1 else 0)
def rkA (S : aS) (t i : Nat) : Nat → Int32
  | 0 => -1
  | k + 1 => if ahC S t k (S.2.1 16 t) = i then nI k else rkA S t i k
def s_ranked (S : aS) (p i : Int32) : Int32 × aS :=
  if isP p then
    if 0 < castF S (pl p) 4 then (fA (castF S (pl p) 4), fltS (thS S) (castF S (pl p) 4))
    else if inR i (S.2.1 16 (wh S (pl p))) then (rkA S (wh S (pl p)) (pl i) (S.2.1 16 (wh S (pl p))), thS S)
    else (fA 3, fltS (thS S) 3)
  else (-1, thS S)
/-- merging: the TERMS from k on; n were new so far -/
def mgG (t u : Nat) : Nat → Nat → Nat → aS → Int32 × aS
  | 0, _, n, S => (nI n, S)
  | m + 1, k, n, S => if (comS S t (S.2.1 20 (100 * u + k))).1 = -4 then (-4, (comS S t (S.2.1 20 (100 * u + k))).2)
    else mgG t u m (k + 1) (n + ((comS S t (S.2.1 20 (100 * u + k))).2.2.1 16 t - S.2.1 16 t)) (comS S t (S.2.1 20 (100 * u + k))).2
def s_merge (S : aS) (p q : Int32) : Int32 × aS :=
  if isP p then
   if isP q then
      if 0 < bthF S (pl p) (pl q) 4 then (fA (bthF S (pl p) (pl q) 4), fltS (thS S) (bthF S (pl p) (pl q) 4))
      else mgG (wh S (pl p)) (wh S (pl q)) (S.2.1 16 (wh S (pl q))) 0 0 (thS S)
   else (-1, thS S)
  else (-1, thS S)
def s_kept (S : aS) : Int32 × aS := (nI (S.1 21), thS S)
def s_mean (S : aS) : Int32 × aS := if S.1 24 = 0 then (nI 0, aSc (thS S) 0 1) else (nI (S.1 23 / S.1 24), thS S)
/-- an answer and a state at a method's end -/
theorem pE_i {o : Nat} {ad : Nat → Nat} {cy : Nat → ClassId} {v : Int32} {S' : aS} {q : Int32 × aS} (h : q = (v, S')) : pE (some (.int q.1)) (mL o ad) (mW o ad cy q.2) (some (.int v)) (mL o ad) (mW o ad cy S') := by subst h; exact ⟨rfl, rfl, rfl⟩
theorem pE_l {o : Nat} {ad : Nat → Nat} {cy : Nat → ClassId} {v : Int64} {S' : aS} {q : Int64 × aS} (h : q = (v, S')) : pE (some (.long q.1)) (mL o ad) (mW o ad cy q.2) (some (.long v)) (mL o ad) (mW o ad cy S') := by subst h; exact ⟨rfl, rfl, rfl⟩
