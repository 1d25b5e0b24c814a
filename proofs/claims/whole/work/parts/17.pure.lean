/-! SLOTS with none are found; what a new row leaves -/
theorem cnz_ex {S : aS} {t : Nat} : ∀ n, cnz S t n < n → ∃ i, i < n ∧ S.2.1 19 (256 * t + i) = 0
  | 0, h => by omega
  | n + 1, h => by
    by_cases h0 : S.2.1 19 (256 * t + n) = 0
    · exact ⟨n, by omega, h0⟩
    · unfold cnz at h
      rw [if_neg h0] at h
      obtain ⟨i, h1, h2⟩ := cnz_ex (S := S) (t := t) n (by omega)
      exact ⟨i, by omega, h2⟩
theorem frG_or {S : aS} {t : Nat} : ∀ f i, (∀ d, d < f → S.2.1 19 (256 * t + (i + d) % S.2.1 15 t) ≠ 0) ∨ S.2.1 19 (256 * t + frG S t f (i % S.2.1 15 t)) = 0
  | 0, i => Or.inl (fun d h => by omega)
  | f + 1, i => by
    by_cases h0 : S.2.1 19 (256 * t + i % S.2.1 15 t) = 0
    · right; rw [frG, if_pos h0]; exact h0
    · rcases frG_or (S := S) (t := t) f (i + 1) with h | h
      · left
        intro d hd
        cases d with
        | zero => exact h0
        | succ d => rw [show i + (d + 1) = i + 1 + d by omega]; exact h d (by omega)
      · right
        rw [frG, if_neg h0, Nat.mod_add_mod]
        exact h
theorem frG_0 {S : aS} {t i : Nat} (hi : i < S.2.1 15 t) (h : ∃ j, j < S.2.1 15 t ∧ S.2.1 19 (256 * t + j) = 0) : S.2.1 19 (256 * t + frG S t (S.2.1 15 t) i) = 0 := by
  have h1 := frG_or (S := S) (t := t) (S.2.1 15 t) i
  rw [Nat.mod_eq_of_lt hi] at h1
  rcases h1 with h1 | h1
  · obtain ⟨j, hj, hz⟩ := h
    exfalso
    by_cases hji : i ≤ j
    · have := h1 (j - i) (by omega)
      rw [show i + (j - i) = j by omega, Nat.mod_eq_of_lt hj] at this
      exact this hz
    · have := h1 (j + S.2.1 15 t - i) (by omega)
      rw [show i + (j + S.2.1 15 t - i) = j + S.2.1 15 t by omega, Nat.add_mod_right, Nat.mod_eq_of_lt hj] at this
      exact this hz
  · exact h1
theorem cnz_up {S : aS} {t i v : Nat} : ∀ n, cnz (aN S 19 (256 * t + i) v) t n ≤ cnz S t n + (if i < n then 1 else 0)
  | 0 => by simp [cnz]
  | n + 1 => by
    have ih := cnz_up (S := S) (t := t) (i := i) (v := v) n
    have e : (aN S 19 (256 * t + i) v).2.1 19 (256 * t + n) = if n = i then v else S.2.1 19 (256 * t + n) := by
      by_cases h : n = i
      · subst h; simp only [aN]; rw [va_up_self, va_up_self]; exact (if_pos trivial).symm
      · simp only [aN]; rw [va_up_self, va_up_ne _ _ (by omega), if_neg h]
    unfold cnz
    rw [e]
    by_cases h : n = i
    · subst h
      rw [if_pos rfl] at *
      rw [if_neg (Nat.lt_irrefl n)] at ih
      rw [if_pos (Nat.lt_succ_self n)]
      split <;> split <;> omega
    · simp only [if_neg h]
      generalize (if S.2.1 19 (256 * t + n) = 0 then 0 else 1) = z
      by_cases h2 : i < n
      · rw [if_pos h2] at ih; rw [if_pos (by omega)]; omega
      · rw [if_neg h2] at ih; rw [if_neg (by omega)]; omega
theorem cnz_puts {B : aS} {t n : Nat} (h0 : cnz B t n = 0) : ∀ k, cnz (putsT B t k) t n ≤ k
  | 0 => by rw [show putsT B t 0 = B from rfl, h0]; exact Nat.le_refl 0
  | k + 1 => by
    have ih := cnz_puts h0 k
    have h1 := cnz_up (S := putsT B t k) (t := t) (i := frG (putsT B t k) t ((putsT B t k).2.1 15 t) (fst0 (putsT B t k) t ((putsT B t k).2.1 20 (100 * t + k)))) (v := k + 1) n
    have h2 : cnz (putsT B t (k + 1)) t n = cnz (aN (putsT B t k) 19 (256 * t + frG (putsT B t k) t ((putsT B t k).2.1 15 t) (fst0 (putsT B t k) t ((putsT B t k).2.1 20 (100 * t + k)))) (k + 1)) t n := rfl
    rw [h2]
    split at h1 <;> omega
theorem cnz_0 {S : aS} {t : Nat} : ∀ n, (∀ i, i < n → S.2.1 19 (256 * t + i) = 0) → cnz S t n = 0
  | 0, _ => rfl
  | n + 1, h => by unfold cnz; rw [cnz_0 n (fun i hi => h i (by omega)), if_pos (h n (by omega))]
/-- in a TABLE that GROWS there is always a SLOT with none -/
theorem grow_fr {S : aS} {t : Nat} (h4 : 0 < S.2.1 15 t) (hk : S.2.1 16 t ≤ S.2.1 15 t * 2) : ∀ k, k < S.2.1 16 t → (putsT (clrT S t) t k).2.1 19 (256 * t + frG (putsT (clrT S t) t k) t ((putsT (clrT S t) t k).2.1 15 t) (fst0 (putsT (clrT S t) t k) t ((putsT (clrT S t) t k).2.1 20 (100 * t + k)))) = 0 := by
  intro k hk1
  obtain ⟨-, -, c15, -⟩ := clrT_f (S := S) (t := t)
  obtain ⟨-, -, pj⟩ := putsT_f (B := clrT S t) (t := t) k
  have p15 : (putsT (clrT S t) t k).2.1 15 t = S.2.1 15 t * 2 := by rw [pj 15 (by decide), c15]
  refine frG_0 (Nat.mod_lt _ (by omega)) (cnz_ex _ ?_)
  have := cnz_puts (B := clrT S t) (t := t) (n := S.2.1 15 t * 2) (cnz_0 _ (fun i hi => clrT_0 hi)) k
  rw [p15]
  omega
/-- a look goes past SLOTS with none nowhere -/
theorem twinB_f {S : aS} {r : Nat} : (∀ k, k ≠ 4 → (twinB S r).1 k = S.1 k) ∧ (twinB S r).1 4 = S.1 4 + 1 ∧ (∀ k, k ≠ 5 → (twinB S r).2.1 k = S.2.1 k) ∧ (twinB S r).2.1 5 = va_up (S.2.1 5) (S.1 4) (S.2.1 5 r) ∧ (∀ k, k ≠ 6 → (twinB S r).2.2 k = S.2.2 k) := by
  refine ⟨fun k h => ?_, rfl, fun k h => ?_, ?_, fun k h => ?_⟩
  · simp [twinB, aWr, newB, aSc, aN, va_up, h]
  · simp [twinB, aWr, newB, aSc, aN, va_up, h]
  · funext x; simp [twinB, aWr, newB, aSc, aN, va_up]
  · simp [twinB, aWr, newB, aSc, aN, va_up, h]
theorem kpG_in {S : aS} {r w : Nat} : ∀ m k, kpG S r m k = some w → ∃ j, j < k + m ∧ k ≤ j ∧ S.2.1 22 j = w
  | 0, k, h => by cases h
  | m + 1, k, h => by
    unfold kpG at h
    by_cases h1 : likB S (S.2.1 22 k) r
    · rw [if_pos h1] at h
      exact ⟨k, by omega, Nat.le_refl k, Option.some.inj h⟩
    · rw [if_neg h1] at h
      obtain ⟨j, a, b, c⟩ := kpG_in m (k + 1) h
      exact ⟨j, by omega, by omega, c⟩
/-- the row that a TABLE has for what comes -/
theorem rowF_f {S : aS} {t r : Nat} (hI : aI S) (hr : r < S.1 4) : (∀ k, k ≠ 5 → k ≠ 22 → (rowF S t r).2.2.1 k = S.2.1 k) ∧ (rowF S t r).1 < (rowF S t r).2.1 4 ∧ S.1 4 ≤ (rowF S t r).2.1 4 ∧ (rowF S t r).2.1 4 ≤ S.1 4 + 1 ∧ ∀ x, x < (rowF S t r).2.1 4 → (rowF S t r).2.2.1 5 x ≤ 16 := by
  obtain ⟨f1, f2, f3, f4, f5⟩ := twinB_f (S := S) (r := r)
  have hbt : ∀ x, x < (twinB S r).1 4 → (twinB S r).2.1 5 x ≤ 16 := by
    intro x hx
    rw [f4]
    by_cases e : x = S.1 4
    · subst e; rw [va_up_self]; exact hI.bl hr
    · rw [va_up_ne _ _ e]; exact hI.bl (by omega)
  unfold rowF
  split
  · exact ⟨fun k h1 _ => f3 k h1, by show S.1 4 < (twinB S r).1 4; omega, by show S.1 4 ≤ (twinB S r).1 4; omega, by show (twinB S r).1 4 ≤ _; omega, hbt⟩
  · unfold keptS
    cases hq : kpG S r (S.1 21) 0 with
    | some w =>
      obtain ⟨j, a, -, b⟩ := kpG_in _ _ hq
      have := hI.2.2.2.2.2.2.2.1 j (by omega)
      exact ⟨fun _ _ _ => rfl, by rw [← b]; exact this, Nat.le_refl _, Nat.le_succ _, fun x hx => hI.bl hx⟩
    | none =>
      refine ⟨fun k h1 h2 => ?_, ?_, ?_, ?_, fun x hx => ?_⟩
      · show va_up (twinB S r).2.1 22 (va_up ((twinB S r).2.1 22) (S.1 21) (S.1 4)) k = _
        rw [va_up_ne _ _ h2]; exact f3 k h1
      · show S.1 4 < va_up (twinB S r).1 21 (S.1 21 + 1) 4
        rw [va_up_ne _ _ (by decide), f2]; exact Nat.lt_succ_self _
      · show S.1 4 ≤ va_up (twinB S r).1 21 (S.1 21 + 1) 4
        rw [va_up_ne _ _ (by decide), f2]; omega
      · show va_up (twinB S r).1 21 (S.1 21 + 1) 4 ≤ _
        rw [va_up_ne _ _ (by decide), f2]; omega
      · show va_up (twinB S r).2.1 22 (va_up ((twinB S r).2.1 22) (S.1 21) (S.1 4)) 5 x ≤ 16
        rw [va_up_ne _ _ (by decide)]
        refine hbt x ?_
        have hx : x < va_up (twinB S r).1 21 (S.1 21 + 1) 4 := hx
        rwa [va_up_ne _ _ (by decide)] at hx
