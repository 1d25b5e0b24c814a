/-! what holds of the state between calls -/
def pOk (S : aS) (j : Nat) : Prop := kd S j ≤ 5 ∧ (kd S j = 0 → wh S j = 0) ∧ (kd S j = 1 → wh S j < S.1 4) ∧ (kd S j = 2 → wh S j < S.1 7) ∧ (kd S j = 3 → wh S j < S.1 10) ∧ (3 < kd S j → wh S j < S.1 13 ∧ kd S j = 4 + S.2.1 14 (wh S j))
/-- how many of the first n SLOTS of t have a TERM -/
def cnz (S : aS) (t : Nat) : Nat → Nat
  | 0 => 0
  | i + 1 => cnz S t i + (if S.2.1 19 (256 * t + i) = 0 then 0 else 1)
def tOk (S : aS) (t : Nat) : Prop := (∃ e, 2 ≤ e ∧ e ≤ 8 ∧ S.2.1 15 t = 2 ^ e) ∧ S.2.1 16 t ≤ 100 ∧ 4 * S.2.1 16 t ≤ 3 * S.2.1 15 t ∧ S.2.1 14 t ≤ 1 ∧ (∀ k, k < S.2.1 16 t → S.2.1 20 (100 * t + k) < S.1 4) ∧ (∀ i, i < S.2.1 15 t → S.2.1 19 (256 * t + i) ≤ S.2.1 16 t) ∧ cnz S t (S.2.1 15 t) ≤ S.2.1 16 t
def aI (S : aS) : Prop := (S.1 4 ≤ 39000 ∧ S.1 7 ≤ 590 ∧ S.1 10 ≤ 590 ∧ S.1 13 ≤ 515 ∧ S.1 21 ≤ S.1 4) ∧ (∀ j, j < 10 → pOk S j) ∧ (∀ r, r < S.1 4 → S.2.1 5 r ≤ 16) ∧ (∀ r, r < S.1 7 → S.2.1 8 r ≤ 16) ∧ (∀ r, r < S.1 10 → S.2.1 11 r ≤ 16) ∧ (∀ i, i < 16 * S.1 10 → S.2.1 12 i ≤ S.1 4) ∧ (∀ t, t < S.1 13 → tOk S t) ∧ (∀ k, k < S.1 21 → S.2.1 22 k < S.1 4) ∧
  (∀ i, i < 16 * S.1 4 → (S.2.2 6 i).toInt8.toInt32 = S.2.2 6 i) ∧ (∀ i, i < 16 * S.1 7 → (S.2.2 9 i).toUInt32.toUInt16.toUInt32.toInt32 = S.2.2 9 i)
theorem aI.nb {S : aS} (h : aI S) : S.1 4 ≤ 39000 ∧ S.1 7 ≤ 590 ∧ S.1 10 ≤ 590 ∧ S.1 13 ≤ 515 ∧ S.1 21 ≤ S.1 4 := h.1
theorem aI.k5 {S : aS} (h : aI S) {j : Nat} (hj : j < 10) : kd S j ≤ 5 := (h.2.1 j hj).1
theorem aI.w1 {S : aS} (h : aI S) {j : Nat} (hj : j < 10) : kd S j = 1 → wh S j < 40000 := fun q => by
  have := (h.2.1 j hj).2.2.1 q
  have := h.nb
  omega
theorem aI.w2 {S : aS} (h : aI S) {j : Nat} (hj : j < 10) : kd S j ≠ 1 → wh S j < 600 := fun q => by
  obtain ⟨h5, h0, h1, h2, h3, h4⟩ := h.2.1 j hj
  have := h.nb
  rcases (show kd S j = 0 ∨ kd S j = 2 ∨ kd S j = 3 ∨ 3 < kd S j by omega) with e | e | e | e
  · have := h0 e; omega
  · have := h2 e; omega
  · have := h3 e; omega
  · have := (h4 e).1; omega
theorem aI.wl {S : aS} (h : aI S) {j : Nat} (hj : j < 10) : kd S j = 1 → wh S j < S.1 4 := (h.2.1 j hj).2.2.1
theorem aI.ws {S : aS} (h : aI S) {j : Nat} (hj : j < 10) : kd S j = 2 → wh S j < S.1 7 := (h.2.1 j hj).2.2.2.1
theorem aI.wr {S : aS} (h : aI S) {j : Nat} (hj : j < 10) : kd S j = 3 → wh S j < S.1 10 := (h.2.1 j hj).2.2.2.2.1
theorem aI.wt {S : aS} (h : aI S) {j : Nat} (hj : j < 10) : 3 < kd S j → wh S j < S.1 13 := fun q => ((h.2.1 j hj).2.2.2.2.2 q).1
theorem aI.bl {S : aS} (h : aI S) {r : Nat} (hr : r < S.1 4) : S.2.1 5 r ≤ 16 := h.2.2.1 r hr
theorem aI.rc {S : aS} (h : aI S) {r i : Nat} (hr : r < S.1 10) (hi : i < 16) : S.2.1 12 (16 * r + i) ≤ S.1 4 := h.2.2.2.2.2.1 _ (by omega)
theorem aI.tk {S : aS} (h : aI S) {t : Nat} (ht : t < S.1 13) : tOk S t := h.2.2.2.2.2.2.1 t ht
/-- rows that are cells: how many -/
theorem aI.lg {S : aS} (h : aI S) {j : Nat} (hj : j < 10) (h0 : kd S j ≠ 0) (h3 : kd S j ≤ 3) : longS S j ≤ 16 := by
  unfold longS
  split
  · exact h.2.2.1 _ (h.wl hj (by assumption))
  · split
    · exact h.2.2.2.1 _ (h.ws hj (by assumption))
    · exact h.2.2.2.2.1 _ (h.wr hj (by omega))
theorem castF_0 {S : aS} {j t : Nat} (h : castF S j t = 0) : kd S j ≠ 0 ∧ isO S j t := by
  unfold castF at h
  by_cases h1 : kd S j = 0
  · rw [if_pos h1] at h; omega
  · rw [if_neg h1] at h
    by_cases h2 : isO S j t
    · exact ⟨h1, h2⟩
    · rw [if_neg h2] at h; omega
theorem castF_2 {S : aS} {j t : Nat} : castF S j t ≤ 2 := by unfold castF; (repeat' split) <;> omega
theorem bthF_2 {S : aS} {j q t : Nat} : bthF S j q t ≤ 2 := by unfold bthF; (repeat' split) <;> omega
/-- types of the face, by their counts -/
theorem ty_j {t : Int32} {lo hi : Nat} (hh : hi < 2 ^ 31) (h : nI lo ≤ t ∧ t ≤ nI hi) (hlo : lo < 2 ^ 31) : ∃ j, lo ≤ j ∧ j ≤ hi ∧ t = nI j := by
  have a := h.1
  have b := h.2
  rw [Int32.le_iff_toInt_le] at a b
  rw [nI_toInt hlo] at a
  rw [nI_toInt hh] at b
  obtain ⟨j, h2, h3⟩ := nI_of (x := t) (by rw [Int32.lt_iff_toInt_lt, Int32.toInt_zero]; omega)
  rw [h3, nI_toInt h2] at a b
  exact ⟨j, by omega, by omega, h3⟩
theorem aI.wb {S : aS} (h : aI S) {j : Nat} (hj : j < 10) : wh S j < 40000 := by
  by_cases q : kd S j = 1
  · exact h.w1 hj q
  · have := h.w2 hj q; omega
theorem tOk.sl {S : aS} {t : Nat} (h : tOk S t) : 4 ≤ S.2.1 15 t ∧ S.2.1 15 t ≤ 256 := by
  obtain ⟨⟨e, h1, h2, h3⟩, -⟩ := h
  rw [h3]
  rcases (show e = 2 ∨ e = 3 ∨ e = 4 ∨ e = 5 ∨ e = 6 ∨ e = 7 ∨ e = 8 by omega) with rfl | rfl | rfl | rfl | rfl | rfl | rfl <;> decide
theorem atS_3 {S : aS} {j i : Nat} (h : kd S j = 3) : atS S j i = nI (S.2.1 12 (16 * wh S j + i)) := by unfold atS; rw [if_neg (by omega), if_neg (by omega)]
theorem sub_ti {L n : Nat} (hL : L ≤ 16) (hn : n < 2 ^ 31) : (nI L - nI n).toInt = (L : Int) - n := by
  rw [Int32.toInt_sub, nI_toInt (by omega), nI_toInt hn]
  exact Int.bmod_eq_of_le (by omega) (by omega)
theorem cpy_of {L : Nat} {a n : Int32} (hL : L ≤ 16) (h1 : ¬ a < 0) (h2 : ¬ n < 0) (h3 : a ≤ nI L - n) : ∃ aj nj, aj + nj ≤ L ∧ a = nI aj ∧ n = nI nj := by
  obtain ⟨aj, ha, rfl⟩ := nI_of h1
  obtain ⟨nj, hn, rfl⟩ := nI_of h2
  rw [Int32.le_iff_toInt_le, sub_ti hL hn, nI_toInt ha] at h3
  exact ⟨aj, nj, by omega, rfl, rfl⟩
theorem le_of_nlt32 {x y : Int32} (h : ¬ x < y) : y ≤ x := by
  rw [Int32.lt_iff_toInt_lt] at h
  rw [Int32.le_iff_toInt_le]
  omega
theorem and_sl (x : Int32) {n : Nat} (h : ∃ e, 2 ≤ e ∧ e ≤ 8 ∧ n = 2 ^ e) : x &&& nI (n - 1) = nI (x.toBitVec.toNat % n) := by
  obtain ⟨e, h1, h2, rfl⟩ := h
  refine pk_and x e (pk_tn ?_)
  rcases (show e = 2 ∨ e = 3 ∨ e = 4 ∨ e = 5 ∨ e = 6 ∨ e = 7 ∨ e = 8 by omega) with rfl | rfl | rfl | rfl | rfl | rfl | rfl <;> decide
theorem and_slN {a n : Nat} (ha : a < 2 ^ 32) (h : ∃ e, 2 ≤ e ∧ e ≤ 8 ∧ n = 2 ^ e) : nI a &&& nI (n - 1) = nI (a % n) := by
  rw [and_sl _ h, pk_tn ha]
theorem lkG_stp {S : aS} {t r i n : Nat} (h : stp S t r i) (f : Nat) : lkG S t r f i n = (i, n) := by
  cases f with
  | zero => rfl
  | succ f => rw [lkG, if_pos h]
theorem aI.tt {S : aS} (h : aI S) {t k : Nat} (ht : t < S.1 13) (hk : k < S.2.1 16 t) : S.2.1 20 (100 * t + k) < S.1 4 := (h.tk ht).2.2.2.2.1 k hk
theorem aI.so {S : aS} (h : aI S) {t i : Nat} (ht : t < S.1 13) (hi : i < S.2.1 15 t) : S.2.1 19 (256 * t + i) ≤ S.2.1 16 t := (h.tk ht).2.2.2.2.2.1 i hi
theorem putsT_f {B : aS} {t : Nat} : ∀ k, (putsT B t k).1 = B.1 ∧ (putsT B t k).2.2 = B.2.2 ∧ ∀ j, j ≠ 19 → (putsT B t k).2.1 j = B.2.1 j
  | 0 => ⟨rfl, rfl, fun _ _ => rfl⟩
  | k + 1 => by
    obtain ⟨h1, h2, h3⟩ := putsT_f (B := B) (t := t) k
    refine ⟨h1, h2, fun j hj => ?_⟩
    show va_up (putsT B t k).2.1 19 _ j = _
    rw [va_up_ne _ _ hj]
    exact h3 j hj
theorem clrT_f {S : aS} {t : Nat} : (clrT S t).1 = S.1 ∧ (clrT S t).2.2 = S.2.2 ∧ (clrT S t).2.1 15 t = S.2.1 15 t * 2 ∧ ∀ j, j ≠ 15 → j ≠ 18 → j ≠ 19 → (clrT S t).2.1 j = S.2.1 j := by
  refine ⟨rfl, rfl, by simp [clrT, aNr, aN, va_up], fun j h1 h2 h3 => ?_⟩
  simp [clrT, aNr, aN, va_up, h1, h2, h3]
theorem frG_lt {S : aS} {t : Nat} (h : 0 < S.2.1 15 t) : ∀ f i, i < S.2.1 15 t → frG S t f i < S.2.1 15 t
  | 0, i, hi => hi
  | f + 1, i, hi => by
    unfold frG
    split
    · exact hi
    · exact frG_lt h f _ (Nat.mod_lt _ h)
theorem lkG_lt {S : aS} {t r : Nat} (h : 0 < S.2.1 15 t) : ∀ f i n, i < S.2.1 15 t → (lkG S t r f i n).1 < S.2.1 15 t
  | 0, i, n, hi => hi
  | f + 1, i, n, hi => by
    unfold lkG
    split
    · exact hi
    · exact lkG_lt h f _ _ (Nat.mod_lt _ h)
theorem lk_lt {S : aS} {t r : Nat} (h : 0 < S.2.1 15 t) : (lk S t r).1 < S.2.1 15 t := lkG_lt h _ _ _ (Nat.mod_lt _ h)
theorem clrT_0 {S : aS} {t i : Nat} (hi : i < S.2.1 15 t * 2) : (clrT S t).2.1 19 (256 * t + i) = 0 := by
  simp only [clrT, aNr, va_up_self]
  rw [if_pos (by omega)]
theorem putsT_le {B : aS} {t n : Nat} (h0 : ∀ i, i < n → B.2.1 19 (256 * t + i) = 0) : ∀ k i, i < n → (putsT B t k).2.1 19 (256 * t + i) ≤ k
  | 0, i, hi => by rw [show (putsT B t 0).2.1 19 (256 * t + i) = 0 from h0 i hi]; exact Nat.le_refl 0
  | k + 1, i, hi => by
    have ih := putsT_le h0 k i hi
    have e : (putsT B t (k + 1)).2.1 19 = va_up ((putsT B t k).2.1 19) (256 * t + frG (putsT B t k) t ((putsT B t k).2.1 15 t) (fst0 (putsT B t k) t ((putsT B t k).2.1 20 (100 * t + k)))) (k + 1) := by
      simp only [putsT, putT, aN, va_up_self]
    rw [e]
    by_cases h : 256 * t + i = 256 * t + frG (putsT B t k) t ((putsT B t k).2.1 15 t) (fst0 (putsT B t k) t ((putsT B t k).2.1 20 (100 * t + k)))
    · rw [h, va_up_self]; exact Nat.le_refl _
    · rw [va_up_ne _ _ h]; omega
theorem cnz_congr {S S' : aS} {t : Nat} (h : ∀ i, S'.2.1 19 (256 * t + i) = S.2.1 19 (256 * t + i)) : ∀ n, cnz S' t n = cnz S t n
  | 0 => rfl
  | n + 1 => by unfold cnz; rw [cnz_congr h n, h n]
theorem aI.of_eq {S S' : aS} (h1 : ∀ k, k ∈ [4, 7, 10, 13, 21] → S'.1 k = S.1 k) (h2 : ∀ k, k ∈ [2, 3, 5, 8, 11, 12, 14, 15, 16, 19, 20, 22] → S'.2.1 k = S.2.1 k) (h3 : S'.2.2 6 = S.2.2 6) (h4 : S'.2.2 9 = S.2.2 9) (h : aI S) : aI S' := by
  have e1 := h1 4 (by decide)
  have e2 := h1 7 (by decide)
  have e3 := h1 10 (by decide)
  have e4 := h1 13 (by decide)
  have e5 := h1 21 (by decide)
  have a2 := h2 2 (by decide)
  have a3 := h2 3 (by decide)
  have a5 := h2 5 (by decide)
  have a8 := h2 8 (by decide)
  have a11 := h2 11 (by decide)
  have a12 := h2 12 (by decide)
  have a14 := h2 14 (by decide)
  have a15 := h2 15 (by decide)
  have a16 := h2 16 (by decide)
  have a19 := h2 19 (by decide)
  have a20 := h2 20 (by decide)
  have a22 := h2 22 (by decide)
  have ec : ∀ t, cnz S' t = cnz S t := fun t => funext (cnz_congr (fun i => by rw [a19]))
  unfold aI pOk tOk kd wh at *
  rw [e1, e2, e3, e4, e5, a2, a3, a5, a8, a11, a12, a14, a15, a16, a19, a20, a22, h3, h4]
  simp only [ec]
  exact h
theorem aI.lkS {S : aS} (h : aI S) (t r : Nat) : aI (lkS S t r) := aI.of_eq (S := S) (h := h) (fun k hk => by
    simp only [List.mem_cons, List.not_mem_nil, or_false] at hk
    rcases hk with rfl | rfl | rfl | rfl | rfl <;> rfl) (fun k hk => by
    simp only [List.mem_cons, List.not_mem_nil, or_false] at hk
    rcases hk with rfl | rfl | rfl | rfl | rfl | rfl | rfl | rfl | rfl | rfl | rfl | rfl <;> rfl) rfl rfl
theorem aI.th {S : aS} (h : aI S) : aI (thS S) := aI.of_eq (S := S) (h := h) (fun k hk => by
    simp only [List.mem_cons, List.not_mem_nil, or_false] at hk
    rcases hk with rfl | rfl | rfl | rfl | rfl <;> rfl) (fun _ _ => rfl) rfl rfl
theorem aI.flt {S : aS} (h : aI S) (f : Nat) : aI (fltS S f) := aI.of_eq (S := S) (h := h) (fun k hk => by
    simp only [List.mem_cons, List.not_mem_nil, or_false] at hk
    rcases hk with rfl | rfl | rfl | rfl | rfl <;> rfl) (fun _ _ => rfl) rfl rfl
