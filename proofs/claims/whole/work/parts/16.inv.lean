/-! what holds of the state between calls -/
def pOk (S : aS) (j : Nat) : Prop := kd S j ≤ 5 ∧ (kd S j = 0 → wh S j = 0) ∧ (kd S j = 1 → wh S j < S.1 4) ∧ (kd S j = 2 → wh S j < S.1 7) ∧ (kd S j = 3 → wh S j < S.1 10) ∧ (3 < kd S j → wh S j < S.1 13 ∧ kd S j = 4 + S.2.1 14 (wh S j))
/-- how many of the first n SLOTS of t have a TERM -/
def cnz (S : aS) (t : Nat) : Nat → Nat
  | 0 => 0
  | i + 1 => cnz S t i + (if S.2.1 19 (256 * t + i) = 0 then 0 else 1)
def tOk (S : aS) (t : Nat) : Prop := (∃ e, 2 ≤ e ∧ e ≤ 8 ∧ S.2.1 15 t = 2 ^ e) ∧ S.2.1 16 t ≤ 100 ∧ 4 * S.2.1 16 t ≤ 3 * S.2.1 15 t ∧ S.2.1 14 t ≤ 1 ∧ (∀ k, k < S.2.1 16 t → S.2.1 20 (100 * t + k) < S.1 4) ∧ (∀ i, i < S.2.1 15 t → S.2.1 19 (256 * t + i) ≤ S.2.1 16 t) ∧ cnz S t (S.2.1 15 t) ≤ S.2.1 16 t
def aI (S : aS) : Prop := (S.1 4 ≤ 39000 ∧ S.1 7 ≤ 590 ∧ S.1 10 ≤ 590 ∧ S.1 13 ≤ 515 ∧ S.1 21 ≤ S.1 4) ∧ (∀ j, j < 10 → pOk S j) ∧ (∀ r, r < S.1 4 → S.2.1 5 r ≤ 16) ∧ (∀ r, r < S.1 7 → S.2.1 8 r ≤ 16) ∧ (∀ r, r < S.1 10 → S.2.1 11 r ≤ 16) ∧ (∀ i, i < 16 * S.1 10 → S.2.1 12 i ≤ S.1 4) ∧ (∀ t, t < S.1 13 → tOk S t) ∧ (∀ k, k < S.1 21 → S.2.1 22 k < S.1 4) ∧
  (∀ i, i < 16 * S.1 4 → (S.2.2 6 i).toInt8.toInt32 = S.2.2 6 i) ∧ (∀ i, i < 16 * S.1 7 → (S.2.2 9 i).toUInt32.toUInt16.toUInt32.toInt32 = S.2.2 9 i)
theorem aI.nb {S : aS} (h : aI S) : S.1 4 ≤ 39000 ∧ S.1 7 ≤ 590 ∧ S.1 10 ≤ 590 ∧ S.1 13 ≤ 515 ∧ S.1 21 ≤ S.1 4 := h.1
theorem aI.k5 {S : aS} (h : aI S) {j : Nat} (hj : j < 10) : kd S j ≤ 5 := (h.2.1 j hj).1
theorem aI.w1 {S : aS} (h : aI S) {j : Nat} (hj : j < 10) : kd S j = 1 → wh S j < 40000 := fun q => by
  have := (h.2.1 j hj).2.2.1 q
  have := h.nb
  omega
theorem aI.w2 {S : aS} (h : aI S) {j : Nat} (hj : j < 10) : kd S j ≠ 1 → wh S j < 600 := fun q => by
  obtain ⟨h5, h0, h1, h2, h3, h4⟩ := h.2.1 j hj
  have := h.nb
  rcases (show kd S j = 0 ∨ kd S j = 2 ∨ kd S j = 3 ∨ 3 < kd S j by omega) with e | e | e | e
  · have := h0 e; omega
  · have := h2 e; omega
  · have := h3 e; omega
  · have := (h4 e).1; omega
theorem aI.wl {S : aS} (h : aI S) {j : Nat} (hj : j < 10) : kd S j = 1 → wh S j < S.1 4 := (h.2.1 j hj).2.2.1
theorem aI.ws {S : aS} (h : aI S) {j : Nat} (hj : j < 10) : kd S j = 2 → wh S j < S.1 7 := (h.2.1 j hj).2.2.2.1
theorem aI.wr {S : aS} (h : aI S) {j : Nat} (hj : j < 10) : kd S j = 3 → wh S j < S.1 10 := (h.2.1 j hj).2.2.2.2.1
theorem aI.wt {S : aS} (h : aI S) {j : Nat} (hj : j < 10) : 3 < kd S j → wh S j < S.1 13 := fun q => ((h.2.1 j hj).2.2.2.2.2 q).1
theorem aI.bl {S : aS} (h : aI S) {r : Nat} (hr : r < S.1 4) : S.2.1 5 r ≤ 16 := h.2.2.1 r hr
theorem aI.rc {S : aS} (h : aI S) {r i : Nat} (hr : r < S.1 10) (hi : i < 16) : S.2.1 12 (16 * r + i) ≤ S.1 4 := h.2.2.2.2.2.1 _ (by omega)
theorem aI.tk {S : aS} (h : aI S) {t : Nat} (ht : t < S.1 13) : tOk S t := h.2.2.2.2.2.2.1 t ht
/-- rows that are cells: how many -/
theorem aI.lg {S : aS} (h : aI S) {j : Nat} (hj : j < 10) (h0 : kd S j ≠ 0) (h3 : kd S j ≤ 3) : longS S j ≤ 16 := by
  unfold longS
  split
  · exact h.2.2.1 _ (h.wl hj (by assumption))
  · split
    · exact h.2.2.2.1 _ (h.ws hj (by assumption))
    · exact h.2.2.2.2.1 _ (h.wr hj (by omega))
theorem castF_0 {S : aS} {j t : Nat} (h : castF S j t = 0) : kd S j ≠ 0 ∧ isO S j t := by
  unfold castF at h
  by_cases h1 : kd S j = 0
  · rw [if_pos h1] at h; omega
  · rw [if_neg h1] at h
    by_cases h2 : isO S j t
    · exact ⟨h1, h2⟩
    · rw [if_neg h2] at h; omega
theorem castF_2 {S : aS} {j t : Nat} : castF S j t ≤ 2 := by unfold castF; (repeat' split) <;> omega
theorem bthF_2 {S : aS} {j q t : Nat} : bthF S j q t ≤ 2 := by unfold bthF; (repeat' split) <;> omega
/-- types of the face, by their counts -/
theorem ty_j {t : Int32} {lo hi : Nat} (hh : hi < 2 ^ 31) (h : nI lo ≤ t ∧ t ≤ nI hi) (hlo : lo < 2 ^ 31) : ∃ j, lo ≤ j ∧ j ≤ hi ∧ t = nI j := by
  have a := h.1
  have b := h.2
  rw [Int32.le_iff_toInt_le] at a b
  rw [nI_toInt hlo] at a
  rw [nI_toInt hh] at b
  obtain ⟨j, h2, h3⟩ := nI_of (x := t) (by rw [Int32.lt_iff_toInt_lt, Int32.toInt_zero]; omega)
  rw [h3, nI_toInt h2] at a b
  exact ⟨j, by omega, by omega, h3⟩
theorem aI.wb {S : aS} (h : aI S) {j : Nat} (hj : j < 10) : wh S j < 40000 := by
  by_cases q : kd S j = 1
  · exact h.w1 hj q
  · have := h.w2 hj q; omega
theorem tOk.sl {S : aS} {t : Nat} (h : tOk S t) : 4 ≤ S.2.1 15 t ∧ S.2.1 15 t ≤ 256 := by
  obtain ⟨⟨e, h1, h2, h3⟩, -⟩ := h
  rw [h3]
  rcases (show e = 2 ∨ e = 3 ∨ e = 4 ∨ e = 5 ∨ e = 6 ∨ e = 7 ∨ e = 8 by omega) with rfl | rfl | rfl | rfl | rfl | rfl | rfl <;> decide
theorem atS_3 {S : aS} {j i : Nat} (h : kd S j = 3) : atS S j i = nI (S.2.1 12 (16 * wh S j + i)) := by unfold atS; rw [if_neg (by omega), if_neg (by omega)]
theorem sub_ti {L n : Nat} (hL : L ≤ 16) (hn : n < 2 ^ 31) : (nI L - nI n).toInt = (L : Int) - n := by
  rw [Int32.toInt_sub, nI_toInt (by omega), nI_toInt hn]
  exact Int.bmod_eq_of_le (by omega) (by omega)
theorem cpy_of {L : Nat} {a n : Int32} (hL : L ≤ 16) (h1 : ¬ a < 0) (h2 : ¬ n < 0) (h3 : a ≤ nI L - n) : ∃ aj nj, aj + nj ≤ L ∧ a = nI aj ∧ n = nI nj := by
  obtain ⟨aj, ha, rfl⟩ := nI_of h1
  obtain ⟨nj, hn, rfl⟩ := nI_of h2
  rw [Int32.le_iff_toInt_le, sub_ti hL hn, nI_toInt ha] at h3
  exact ⟨aj, nj, by omega, rfl, rfl⟩
theorem le_of_nlt32 {x y : Int32} (h : ¬ x < y) : y ≤ x := by
  rw [Int32.lt_iff_toInt_lt] at h
  rw [Int32.le_iff_toInt_le]
  omega
