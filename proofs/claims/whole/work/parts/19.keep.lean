/-! what holds between calls is kept by a TERM that comes -/
/-- aI apart from what it says of the TABLE t -/
def aJ (S : aS) (t : Nat) : Prop := (S.1 4 ≤ 39000 ∧ S.1 7 ≤ 590 ∧ S.1 10 ≤ 590 ∧ S.1 13 ≤ 515 ∧ S.1 21 ≤ S.1 4) ∧ (∀ j, j < 10 → pOk S j) ∧ (∀ r, r < S.1 4 → S.2.1 5 r ≤ 16) ∧ (∀ r, r < S.1 7 → S.2.1 8 r ≤ 16) ∧ (∀ r, r < S.1 10 → S.2.1 11 r ≤ 16) ∧ (∀ i, i < 16 * S.1 10 → S.2.1 12 i ≤ S.1 4) ∧ (∀ u, u < S.1 13 → u ≠ t → tOk S u) ∧ (∀ k, k < S.1 21 → S.2.1 22 k < S.1 4) ∧
  (∀ i, i < 16 * S.1 4 → (S.2.2 6 i).toInt8.toInt32 = S.2.2 6 i) ∧ (∀ i, i < 16 * S.1 7 → (S.2.2 9 i).toUInt32.toUInt16.toUInt32.toInt32 = S.2.2 9 i)
theorem aI.J {S : aS} (h : aI S) (t : Nat) : aJ S t := ⟨h.1, h.2.1, h.2.2.1, h.2.2.2.1, h.2.2.2.2.1, h.2.2.2.2.2.1, fun u hu _ => h.2.2.2.2.2.2.1 u hu, h.2.2.2.2.2.2.2⟩
theorem aJ.I {S : aS} {t : Nat} (h : aJ S t) (ht : t < S.1 13 → tOk S t) : aI S := ⟨h.1, h.2.1, h.2.2.1, h.2.2.2.1, h.2.2.2.2.1, h.2.2.2.2.2.1, fun u hu => by
    by_cases e : u = t
    · subst e; exact ht hu
    · exact h.2.2.2.2.2.2.1 u hu e, h.2.2.2.2.2.2.2⟩
theorem cnz_congr2 {S S' : aS} {t : Nat} : ∀ n, (∀ i, i < n → S'.2.1 19 (256 * t + i) = S.2.1 19 (256 * t + i)) → cnz S' t n = cnz S t n
  | 0, _ => rfl
  | n + 1, h => by unfold cnz; rw [cnz_congr2 n (fun i hi => h i (by omega)), h n (by omega)]
/-- a TABLE is as it was, where its own rows are -/
theorem tOk.of_eq {S S' : aS} {u : Nat} (h4 : S.1 4 ≤ S'.1 4) (h14 : S'.2.1 14 u = S.2.1 14 u) (h15 : S'.2.1 15 u = S.2.1 15 u) (h16 : S'.2.1 16 u = S.2.1 16 u) (h19 : ∀ i, i < 256 → S'.2.1 19 (256 * u + i) = S.2.1 19 (256 * u + i)) (h20 : ∀ k, k < 100 → S'.2.1 20 (100 * u + k) = S.2.1 20 (100 * u + k)) (h : tOk S u) : tOk S' u := by
  have hs := h.sl
  obtain ⟨a1, a2, a3, a4, a5, a6, a7⟩ := h
  refine ⟨by rw [h15]; exact a1, by rw [h16]; exact a2, by rw [h15, h16]; exact a3, by rw [h14]; exact a4, fun k hk => ?_, fun i hi => ?_, ?_⟩
  · rw [h16] at hk
    rw [h20 k (by omega)]
    have := a5 k hk
    omega
  · rw [h15] at hi
    rw [h19 i (by omega), h16]
    exact a6 i hi
  · rw [h15, h16, cnz_congr2 (S := S) _ (fun i hi => h19 i (by omega))]
    exact a7
theorem aJ.of_t {S S' : aS} {t : Nat} (h1 : S'.1 = S.1) (h2 : S'.2.2 = S.2.2) (hk : ∀ k, k < 15 ∨ 20 < k → S'.2.1 k = S.2.1 k) (hu : ∀ u, u ≠ t → S'.2.1 15 u = S.2.1 15 u ∧ S'.2.1 16 u = S.2.1 16 u ∧ (∀ i, i < 256 → S'.2.1 19 (256 * u + i) = S.2.1 19 (256 * u + i)) ∧ ∀ k, k < 100 → S'.2.1 20 (100 * u + k) = S.2.1 20 (100 * u + k)) (h : aJ S t) : aJ S' t := by
  obtain ⟨a1, a2, a3, a4, a5, a6, a7, a8, a9, a10⟩ := h
  have e2 := hk 2 (by omega)
  have e3 := hk 3 (by omega)
  have e5 := hk 5 (by omega)
  have e8 := hk 8 (by omega)
  have e11 := hk 11 (by omega)
  have e12 := hk 12 (by omega)
  have e14 := hk 14 (by omega)
  have e22 := hk 22 (by omega)
  refine ⟨by rw [h1]; exact a1, fun j hj => ?_, by rw [h1, e5]; exact a3, by rw [h1, e8]; exact a4, by rw [h1, e11]; exact a5, by rw [h1, e12]; exact a6, fun u hu1 hut => ?_, by rw [h1, e22]; exact a8, by rw [h1, h2]; exact a9, by rw [h1, h2]; exact a10⟩
  · have := a2 j hj
    unfold pOk kd wh at *
    rw [h1, e2, e3, e14]
    exact this
  · rw [h1] at hu1
    obtain ⟨b1, b2, b3, b4⟩ := hu u hut
    exact (a7 u hu1 hut).of_eq (by rw [h1]; exact Nat.le_refl _) (by rw [e14]) b1 b2 b3 b4
theorem aI.twin {S : aS} {r : Nat} (h : aI S) (hr : r < S.1 4) (hb : S.1 4 + 1 ≤ 39000) : aI (twinB S r) := by
  obtain ⟨f1, f2, f3, f4, f5⟩ := twinB_f (S := S) (r := r)
  have e7 := f1 7 (by decide)
  have e10 := f1 10 (by decide)
  have e13 := f1 13 (by decide)
  have e21 := f1 21 (by decide)
  obtain ⟨a1, a2, a3, a4, a5, a6, a7, a8, a9, a10⟩ := h
  refine ⟨by rw [f2, e7, e10, e13, e21]; omega, fun j hj => ?_, fun x hx => ?_, by rw [e7, f3 8 (by decide)]; exact a4, by rw [e10, f3 11 (by decide)]; exact a5, fun i hi => ?_, fun u hu => ?_, fun k hk => ?_, fun i hi => ?_, by rw [e7, f5 9 (by decide)]; exact a10⟩
  · have := a2 j hj
    unfold pOk kd wh at *
    rw [f2, e7, e10, e13, f3 2 (by decide), f3 3 (by decide), f3 14 (by decide)]
    obtain ⟨b1, b2, b3, b4⟩ := this
    exact ⟨b1, b2, fun q => by have := b3 q; omega, b4⟩
  · rw [f2] at hx
    rw [f4]
    by_cases e : x = S.1 4
    · subst e; rw [va_up_self]; exact a3 r hr
    · rw [va_up_ne _ _ e]; exact a3 x (by omega)
  · rw [e10] at hi
    rw [f2, f3 12 (by decide)]
    have := a6 i hi
    omega
  · rw [e13] at hu
    exact (a7 u hu).of_eq (by omega) (by rw [f3 14 (by decide)]) (by rw [f3 15 (by decide)]) (by rw [f3 16 (by decide)]) (fun i _ => by rw [f3 19 (by decide)]) (fun k _ => by rw [f3 20 (by decide)])
  · rw [e21] at hk
    rw [f2, f3 22 (by decide)]
    have := a8 k hk
    omega
  · rw [f2] at hi
    have e6 : (twinB S r).2.2 6 i = if 16 * S.1 4 ≤ i ∧ i < 16 * S.1 4 + 16 then S.2.2 6 (16 * r + (i - 16 * S.1 4)) else S.2.2 6 i := by
      simp only [twinB, aWr, newB, aSc, aN, va_up_self]
      by_cases q : 16 * S.1 4 ≤ i ∧ i < 16 * S.1 4 + 16
      · rw [if_pos q, if_pos q]
      · rw [if_neg q, if_neg q, if_neg q]
    rw [e6]
    split
    · exact a9 _ (by omega)
    · exact a9 _ (by omega)
theorem aI.row {S : aS} {t r : Nat} (h : aI S) (hr : r < S.1 4) (hb : S.1 4 + 1 ≤ 39000) : aI (rowF S t r).2 := by
  unfold rowF
  split
  · exact h.twin hr hb
  · unfold keptS
    cases hq : kpG S r (S.1 21) 0 with
    | some w => exact h
    | none =>
      obtain ⟨f1, f2, f3, f4, f5⟩ := twinB_f (S := S) (r := r)
      have hT := h.twin hr hb
      have e21 := f1 21 (by decide)
      have h21 := h.nb
      show aI (aSc (aN (twinB S r) 22 (S.1 21) (S.1 4)) 21 (S.1 21 + 1))
      obtain ⟨a1, a2, a3, a4, a5, a6, a7, a8, a9, a10⟩ := hT
      refine ⟨?_, a2, a3, a4, a5, a6, fun u hu => tOk.of_eq (S := twinB S r) (h := a7 u hu) (Nat.le_refl _) rfl rfl rfl (fun _ _ => rfl) (fun _ _ => rfl), fun k hk => ?_, a9, a10⟩
      · show (twinB S r).1 4 ≤ 39000 ∧ (twinB S r).1 7 ≤ 590 ∧ (twinB S r).1 10 ≤ 590 ∧ (twinB S r).1 13 ≤ 515 ∧ S.1 21 + 1 ≤ (twinB S r).1 4
        omega
      · have hk : k < S.1 21 + 1 := hk
        show va_up ((twinB S r).2.1 22) (S.1 21) (S.1 4) k < (twinB S r).1 4
        by_cases e : k = S.1 21
        · subst e; rw [va_up_self]; omega
        · rw [va_up_ne _ _ e]
          exact a8 k (by omega)
theorem newTm_f {S : aS} {t w i : Nat} : (newTm S t w i).1 = S.1 ∧ (newTm S t w i).2.2 = S.2.2 ∧ (∀ k, k ≠ 16 → k ≠ 19 → k ≠ 20 → (newTm S t w i).2.1 k = S.2.1 k) ∧ (newTm S t w i).2.1 16 = va_up (S.2.1 16) t (S.2.1 16 t + 1) ∧ (newTm S t w i).2.1 19 = va_up (S.2.1 19) (256 * t + i) (S.2.1 16 t + 1) ∧ (newTm S t w i).2.1 20 = va_up (S.2.1 20) (100 * t + S.2.1 16 t) w := by
  refine ⟨rfl, rfl, fun k h1 h2 h3 => ?_, ?_, ?_, ?_⟩
  · simp only [newTm, aN]; rw [va_up_ne _ _ h1, va_up_ne _ _ h2, va_up_ne _ _ h3]
  · simp only [newTm, aN, va_up_self]
    rw [va_up_ne _ _ (show (16 : Nat) ≠ 19 by decide), va_up_ne _ _ (show (16 : Nat) ≠ 20 by decide)]
  · simp only [newTm, aN]
    rw [va_up_ne _ _ (show (19 : Nat) ≠ 16 by decide), va_up_self, va_up_ne _ _ (show (19 : Nat) ≠ 20 by decide)]
  · simp only [newTm, aN]
    rw [va_up_ne _ _ (show (20 : Nat) ≠ 16 by decide), va_up_ne _ _ (show (20 : Nat) ≠ 19 by decide), va_up_self]
theorem newTm_J {S : aS} {t w i : Nat} (h : aJ S t) (hi : i < 256) (hm : S.2.1 16 t < 100) : aJ (newTm S t w i) t := by
  obtain ⟨n1, n2, n3, n16, n19, n20⟩ := newTm_f (S := S) (t := t) (w := w) (i := i)
  refine aJ.of_t n1 n2 (fun k hk => n3 k (by omega) (by omega) (by omega)) (fun u hu => ⟨by rw [n3 15 (by decide) (by decide) (by decide)], by rw [n16, va_up_ne _ _ hu], fun x hx => ?_, fun k hk => ?_⟩) h
  · rw [n19, va_up_ne _ _ (by omega)]
  · rw [n20, va_up_ne _ _ (by omega)]
theorem cnz_le {S S' : aS} {t i : Nat} {v : Nat} (h : S'.2.1 19 = va_up (S.2.1 19) (256 * t + i) v) (n : Nat) : cnz S' t n ≤ cnz S t n + 1 := by
  have e : cnz S' t n = cnz (aN S 19 (256 * t + i) v) t n := cnz_congr2 n (fun x _ => by rw [h]; simp only [aN, va_up_self])
  rw [e]
  have := cnz_up (S := S) (t := t) (i := i) (v := v) n
  split at this <;> omega
theorem growS_f {S : aS} {t : Nat} : (growS S t).1 = S.1 ∧ (growS S t).2.2 = S.2.2 ∧ (∀ k, k ≠ 15 → k ≠ 18 → k ≠ 19 → (growS S t).2.1 k = S.2.1 k) ∧ (growS S t).2.1 15 = va_up (S.2.1 15) t (S.2.1 15 t * 2) := by
  obtain ⟨p1, p2, p3⟩ := putsT_f (B := clrT S t) (t := t) (S.2.1 16 t)
  obtain ⟨c1, c2, c15, cj⟩ := clrT_f (S := S) (t := t)
  refine ⟨p1.trans c1, p2.trans c2, fun k h1 h2 h3 => (p3 k h3).trans (cj k h1 h2 h3), (p3 15 (by decide)).trans ?_⟩
  simp only [clrT, aNr, aN]
  rw [va_up_ne _ _ (show (15 : Nat) ≠ 19 by decide), va_up_ne _ _ (show (15 : Nat) ≠ 18 by decide), va_up_self]
/-- SLOTS of other TABLES stay as a TABLE GROWS -/
theorem puts_o {B : aS} {t : Nat} (hs : 0 < B.2.1 15 t ∧ B.2.1 15 t ≤ 256) : ∀ k x, (x < 256 * t ∨ 256 * t + 256 ≤ x) → (putsT B t k).2.1 19 x = B.2.1 19 x
  | 0, x, _ => rfl
  | k + 1, x, hx => by
    have e : (putsT B t (k + 1)).2.1 19 = va_up ((putsT B t k).2.1 19) (256 * t + frG (putsT B t k) t ((putsT B t k).2.1 15 t) (fst0 (putsT B t k) t ((putsT B t k).2.1 20 (100 * t + k)))) (k + 1) := by
      simp only [putsT, putT, aN, va_up_self]
    obtain ⟨-, -, p3⟩ := putsT_f (B := B) (t := t) k
    have p15 := p3 15 (by decide)
    have hl := frG_lt (S := putsT B t k) (t := t) (by rw [p15]; exact hs.1) ((putsT B t k).2.1 15 t) (fst0 (putsT B t k) t ((putsT B t k).2.1 20 (100 * t + k))) (Nat.mod_lt _ (by rw [p15]; exact hs.1))
    rw [p15] at hl
    rw [e, p15, va_up_ne _ _ (by omega)]
    exact puts_o hs k x hx
theorem grow_J {S : aS} {t : Nat} (h : aJ S t) (hs : 4 ≤ S.2.1 15 t ∧ S.2.1 15 t ≤ 128) : aJ (growS S t) t := by
  obtain ⟨n1, n2, n3, n15⟩ := growS_f (S := S) (t := t)
  obtain ⟨c1, c2, c15, cj⟩ := clrT_f (S := S) (t := t)
  refine aJ.of_t n1 n2 (fun k hk => n3 k (by omega) (by omega) (by omega)) (fun u hu => ⟨by rw [n15, va_up_ne _ _ hu], by rw [n3 16 (by decide) (by decide) (by decide)], fun x hx => ?_, fun k hk => by rw [n3 20 (by decide) (by decide) (by decide)]⟩) h
  unfold growS
  rw [puts_o (by rw [c15]; omega) _ _ (by omega)]
  simp only [clrT, aNr, va_up_self]
  rw [if_neg (by omega)]
  rfl
theorem grow_t {S : aS} {t : Nat} (he : ∃ e, 2 ≤ e ∧ e ≤ 7 ∧ S.2.1 15 t = 2 ^ e) (hm : S.2.1 16 t ≤ 100) (h43 : 4 * S.2.1 16 t ≤ 6 * S.2.1 15 t) (h14 : S.2.1 14 t ≤ 1) (h20 : ∀ k, k < S.2.1 16 t → S.2.1 20 (100 * t + k) < S.1 4) : tOk (growS S t) t := by
  obtain ⟨n1, n2, n3, n15⟩ := growS_f (S := S) (t := t)
  have e16 := n3 16 (by decide) (by decide) (by decide)
  have e15 : (growS S t).2.1 15 t = S.2.1 15 t * 2 := by rw [n15, va_up_self]
  refine ⟨?_, by rw [e16]; exact hm, by rw [e15, e16]; omega, by rw [n3 14 (by decide) (by decide) (by decide)]; exact h14, fun k hk => ?_, fun i hi => ?_, ?_⟩
  · obtain ⟨e, a1, a2, a3⟩ := he
    exact ⟨e + 1, by omega, by omega, by rw [e15, a3, Nat.pow_succ]⟩
  · rw [e16] at hk
    rw [n3 20 (by decide) (by decide) (by decide), n1]
    exact h20 k hk
  · rw [e15] at hi
    rw [e16]
    exact putsT_le (n := S.2.1 15 t * 2) (fun j hj => clrT_0 hj) _ i hi
  · rw [e15, e16]
    exact cnz_puts (B := clrT S t) (t := t) (n := S.2.1 15 t * 2) (cnz_0 _ (fun i hi => clrT_0 hi)) _
theorem aI_com {S : aS} {t r : Nat} (h : aI S) (ht : t < S.1 13) (hr : r < S.1 4) (hb : S.1 4 + 1 ≤ 39000) : aI (comS S t r).2 ∧ (comS S t r).2.1 4 ≤ S.1 4 + 1 ∧ S.1 4 ≤ (comS S t r).2.1 4 ∧ (comS S t r).2.1 13 = S.1 13 ∧ ∀ u, S.2.1 16 u ≤ (comS S t r).2.2.1 16 u := by
  have h0 := h.lkS t r
  have hk := h.tk ht
  have hs := hk.sl
  unfold comS
  split
  · exact ⟨h0, Nat.le_succ _, Nat.le_refl _, rfl, fun _ => Nat.le_refl _⟩
  · split
    · exact ⟨h0, Nat.le_succ _, Nat.le_refl _, rfl, fun _ => Nat.le_refl _⟩
    · rename_i hz hm
      have hz0 : S.2.1 19 (256 * t + (lk S t r).1) = 0 := by omega
      have hlt := lk_lt (S := S) (t := t) (r := r) (by omega)
      obtain ⟨g1, g2, g3, g4, g5⟩ := rowF_f (S := lkS S t r) (t := t) (r := r) h0 hr
      have hrow := h0.row (t := t) (r := r) hr hb
      have e13 : (rowF (lkS S t r) t r).2.1 13 = S.1 13 := by
        unfold rowF
        split
        · exact (twinB_f (S := lkS S t r) (r := r)).1 13 (by decide)
        · unfold keptS
          cases kpG (lkS S t r) r ((lkS S t r).1 21) 0 with
          | some w => rfl
          | none => exact (twinB_f (S := lkS S t r) (r := r)).1 13 (by decide)
      generalize (rowF (lkS S t r) t r).2 = S1 at g1 g2 g3 g4 g5 hrow e13
      generalize (rowF (lkS S t r) t r).1 = w1 at g2
      have g3 : S.1 4 ≤ S1.1 4 := g3
      have g4 : S1.1 4 ≤ S.1 4 + 1 := g4
      have q : ∀ k, k ≠ 5 → k ≠ 22 → k ≠ 17 → S1.2.1 k = S.2.1 k := fun k a b c => by
        rw [g1 k a b]
        show va_up S.2.1 17 _ k = S.2.1 k
        exact va_up_ne _ _ c
      have q14 : S1.2.1 14 t = S.2.1 14 t := by rw [q 14 (by decide) (by decide) (by decide)]
      have q15 : S1.2.1 15 t = S.2.1 15 t := by rw [q 15 (by decide) (by decide) (by decide)]
      have q16 : S1.2.1 16 t = S.2.1 16 t := by rw [q 16 (by decide) (by decide) (by decide)]
      have q19 := q 19 (by decide) (by decide) (by decide)
      have q20 := q 20 (by decide) (by decide) (by decide)
      have hm1 := hk.2.1
      have h43 := hk.2.2.1
      obtain ⟨n1, n2, n3, n16, n19, n20⟩ := newTm_f (S := S1) (t := t) (w := w1) (i := (lk S t r).1)
      have hJ : aJ (newTm S1 t w1 (lk S t r).1) t := newTm_J (hrow.J t) (by omega) (by omega)
      have x16 : (newTm S1 t w1 (lk S t r).1).2.1 16 t = S.2.1 16 t + 1 := by rw [n16, va_up_self, q16]
      have x15 : (newTm S1 t w1 (lk S t r).1).2.1 15 t = S.2.1 15 t := by rw [n3 15 (by decide) (by decide) (by decide), q15]
      have x14 : (newTm S1 t w1 (lk S t r).1).2.1 14 t ≤ 1 := by rw [n3 14 (by decide) (by decide) (by decide), q14]; exact hk.2.2.2.1
      have x20 : ∀ k, k < S.2.1 16 t + 1 → (newTm S1 t w1 (lk S t r).1).2.1 20 (100 * t + k) < (newTm S1 t w1 (lk S t r).1).1 4 := by
        intro k hk8
        rw [n1, n20, q16]
        by_cases e : k = S.2.1 16 t
        · subst e; rw [va_up_self]; exact g2
        · rw [va_up_ne _ _ (by omega), q20]
          have := h.tt ht (k := k) (by omega)
          omega
      have xu : ∀ u, S.2.1 16 u ≤ (newTm S1 t w1 (lk S t r).1).2.1 16 u := by
        intro u
        rw [n16]
        by_cases e : u = t
        · subst e; rw [va_up_self, q16]; omega
        · rw [va_up_ne _ _ e, q 16 (by decide) (by decide) (by decide)]; exact Nat.le_refl _
      unfold grwS
      split
      · rename_i hg
        rw [x15, x16] at hg
        have he : ∃ e, 2 ≤ e ∧ e ≤ 7 ∧ (newTm S1 t w1 (lk S t r).1).2.1 15 t = 2 ^ e := by
          obtain ⟨e, a1, a2, a3⟩ := hk.1
          refine ⟨e, a1, ?_, by rw [x15, a3]⟩
          rcases (show e ≤ 7 ∨ e = 8 by omega) with q9 | q9
          · exact q9
          · subst q9; omega
        have hs7 : 4 ≤ (newTm S1 t w1 (lk S t r).1).2.1 15 t ∧ (newTm S1 t w1 (lk S t r).1).2.1 15 t ≤ 128 := by
          obtain ⟨e, a1, a2, a3⟩ := he
          rw [a3]
          rcases (show e = 2 ∨ e = 3 ∨ e = 4 ∨ e = 5 ∨ e = 6 ∨ e = 7 by omega) with rfl | rfl | rfl | rfl | rfl | rfl <;> decide
        obtain ⟨w1', w2', w3', w15'⟩ := growS_f (S := newTm S1 t w1 (lk S t r).1) (t := t)
        refine ⟨(grow_J hJ hs7).I (fun _ => grow_t he (by omega) (by omega) x14 (fun k hk8 => x20 k (by omega))), ?_, ?_, ?_, fun u => ?_⟩
        · show (growS _ t).1 4 ≤ _
          rw [w1', n1]; exact g4
        · show _ ≤ (growS _ t).1 4
          rw [w1', n1]; exact g3
        · show (growS _ t).1 13 = _
          rw [w1', n1]; exact e13
        · show _ ≤ (growS _ t).2.1 16 u
          rw [w3' 16 (by decide) (by decide) (by decide)]; exact xu u
      · rename_i hg
        rw [x15, x16] at hg
        refine ⟨hJ.I (fun _ => ⟨by rw [x15]; exact hk.1, by omega, by omega, x14, fun k hk8 => x20 k (by omega), fun i hi => ?_, ?_⟩), ?_, ?_, ?_, xu⟩
        · rw [x15] at hi
          rw [n19, x16, q16]
          by_cases e : 256 * t + i = 256 * t + (lk S t r).1
          · rw [e, va_up_self]; exact Nat.le_refl _
          · rw [va_up_ne _ _ e, q19]
            have := h.so ht hi
            omega
        · rw [x15, x16]
          have := cnz_le (S := S1) n19 (S.2.1 15 t)
          have e := cnz_congr2 (S := S) (S' := S1) (t := t) (S.2.1 15 t) (fun i _ => by rw [q19])
          have := hk.2.2.2.2.2.2
          omega
        · show (newTm _ _ _ _).1 4 ≤ _
          rw [n1]; exact g4
        · show _ ≤ (newTm _ _ _ _).1 4
          rw [n1]; exact g3
        · show (newTm _ _ _ _).1 13 = _
          rw [n1]; exact e13
