/-- what lies aside: q holds e, and the book doesn't name it -/
def xN (cy : Nat → ClassId) (S : aS) (b : xB) (L : List Nat) (f : Nat → va_E) (q : Nat) (e : va_E) : Prop := (q ∈ L ∧ f q = e) ∧ ∀ k r, xV S k r → b.1 k r ≠ q
theorem g_wx {X : gX} {cl : List vw_C} {nL : Nat} {L : List Nat} {f : Nat → va_E} {cells slots pc : Nat} {lv : List (Nat × Value)} {st : List Value} {P : List Nat → (Nat → va_E) → Prop} (h : P L f) (k : ∀ L1 f1, P L1 f1 → gW X cl nL L1 f1 cells slots pc lv st) : gW X cl nL L f cells slots pc lv st := k L f h
/-- S' has all that S has, as it was -/
def xA (S S' : aS) : Prop := (S'.1 1 = S.1 1 ∧ S'.1 21 = S.1 21 ∧ S'.1 23 = S.1 23 ∧ S'.1 24 = S.1 24) ∧ (∀ r, r < S.1 4 → S'.2.1 5 r = S.2.1 5 r ∧ ∀ i, i < S.2.1 5 r → S'.2.2 6 (16 * r + i) = S.2.2 6 (16 * r + i)) ∧ (∀ r, r < S.1 7 → S'.2.1 8 r = S.2.1 8 r ∧ ∀ i, i < S.2.1 8 r → S'.2.2 9 (16 * r + i) = S.2.2 9 (16 * r + i)) ∧
  (∀ r, r < S.1 10 → S'.2.1 11 r = S.2.1 11 r ∧ ∀ i, i < S.2.1 11 r → S'.2.1 12 (16 * r + i) = S.2.1 12 (16 * r + i)) ∧ (∀ t, t < S.1 13 → S'.2.1 14 t = S.2.1 14 t ∧ S'.2.1 15 t = S.2.1 15 t ∧ S'.2.1 16 t = S.2.1 16 t ∧ S'.2.1 17 t = S.2.1 17 t ∧ S'.2.1 18 t = S.2.1 18 t ∧ (∀ i, i < S.2.1 15 t → S'.2.1 19 (256 * t + i) = S.2.1 19 (256 * t + i)) ∧ ∀ k, k < S.2.1 16 t → S'.2.1 20 (100 * t + k) = S.2.1 20 (100 * t + k)) ∧
  (∀ k, k < S.1 21 → S'.2.1 22 k = S.2.1 22 k) ∧ ∀ j, j < 10 → S'.2.1 2 j = S.2.1 2 j ∧ S'.2.1 3 j = S.2.1 3 j
/-- what the state names is there -/
def xF (S : aS) : Prop := (∀ j, j < 10 → kd S j ≠ 0 → xV S (thk (kd S j)) (wh S j)) ∧ (∀ r, r < S.1 10 → ∀ i, i < S.2.1 11 r → S.2.1 12 (16 * r + i) ≤ S.1 4) ∧ (∀ t, t < S.1 13 → ∀ k, k < S.2.1 16 t → S.2.1 20 (100 * t + k) < S.1 4) ∧ ∀ k, k < S.1 21 → S.2.1 22 k < S.1 4
theorem xF.of {S : aS} (h : aI S) : xF S := by
  have hnb := h.nb
  refine ⟨fun j hj h0 => ?_, fun r hr i hi => ?_, fun t ht k hk => h.tt ht hk, h.2.2.2.2.2.2.2.1⟩
  · have h5 := h.k5 hj
    rcases (show kd S j = 1 ∨ kd S j = 2 ∨ kd S j = 3 ∨ kd S j = 4 ∨ kd S j = 5 by omega) with e | e | e | e | e <;> rw [e]
    · exact h.wl hj e
    · exact h.ws hj e
    · exact h.wr hj e
    · exact h.wt hj (by omega)
    · exact h.wt hj (by omega)
  · have := h.2.2.2.2.1 r hr
    exact h.rc hr (by omega)
theorem xE_ext {cy : Nat → ClassId} {S S' : aS} {b b' : xB} {k r : Nat} (hA : xA S S') (hF : xF S) (hb : ∀ k r, xV S k r → b'.1 k r = b.1 k r) (hb2 : b'.2 = b.2) (hv : xV S k r) : xE cy S' b' k r = xE cy S b k r := by
  obtain ⟨⟨a1, a2, a3, a4⟩, aB, aG, aW, aT, aK, aP⟩ := hA
  obtain ⟨fP, fW, fT, fK⟩ := hF
  have h90 : b'.1 9 0 = b.1 9 0 := hb 9 0 (show 0 < 4 by decide)
  have h91 : b'.1 9 1 = b.1 9 1 := hb 9 1 (show 1 < 4 by decide)
  have h92 : b'.1 9 2 = b.1 9 2 := hb 9 2 (show 2 < 4 by decide)
  have h93 : b'.1 9 3 = b.1 9 3 := hb 9 3 (show 3 < 4 by decide)
  have h10 : b'.1 10 0 = b.1 10 0 := hb 10 0 (show 0 < 1 by decide)
  refine hv.cs (P := fun k r => xE cy S' b' k r = xE cy S b k r) (fun hr => ?_) (fun hr => ?_) (fun hr => ?_) (fun hr => ?_) (fun hr => ?_) (fun hr => ?_) (fun hr => ?_) (fun hr => ?_) (fun hr => ?_) ?_ ?_ ?_ ?_ ?_
  · show (Sum.inr (0, [Value.ref (b'.1 1 r)]) : va_E) = Sum.inr (0, [Value.ref (b.1 1 r)])
    rw [hb 1 r hr]
  · show iA _ _ _ = iA _ _ _
    obtain ⟨e1, e2⟩ := aB r hr
    rw [show bcF S' r = bcF S r from funext fun i => by
      unfold bcF
      rw [e1]
      by_cases h : i < S.2.1 5 r
      · rw [if_pos h, if_pos h, e2 i h]
      · rw [if_neg h, if_neg h], e1]
  · show (Sum.inr (4, [Value.ref (b'.1 3 r)]) : va_E) = Sum.inr (4, [Value.ref (b.1 3 r)])
    rw [hb 3 r hr]
  · show iA _ _ _ = iA _ _ _
    obtain ⟨e1, e2⟩ := aG r hr
    rw [show scF S' r = scF S r from funext fun i => by
      unfold scF
      rw [e1]
      by_cases h : i < S.2.1 8 r
      · rw [if_pos h, if_pos h, e2 i h]
      · rw [if_neg h, if_neg h], e1]
  · show (Sum.inr (3, [Value.ref (b'.1 5 r)]) : va_E) = Sum.inr (3, [Value.ref (b.1 5 r)])
    rw [hb 5 r hr]
  · show qA _ _ _ = qA _ _ _
    obtain ⟨e1, e2⟩ := aW r hr
    rw [show rcF S' b' r = rcF S b r from funext fun i => by
      unfold rcF rfo
      rw [e1]
      by_cases h : i < S.2.1 11 r
      · rw [if_pos h, if_pos h, e2 i h]
        by_cases h0 : S.2.1 12 (16 * r + i) = 0
        · rw [if_pos h0, if_pos h0]
        · have := fW r hr i h
          rw [if_neg h0, if_neg h0, hb 0 _ (show S.2.1 12 (16 * r + i) - 1 < S.1 4 by omega)]
      · rw [if_neg h, if_neg h], e1]
  · show (if S'.2.1 14 r = 0 then _ else _) = (if S.2.1 14 r = 0 then _ else _)
    obtain ⟨e1, e2, e3, e4, e5, e6, e7⟩ := aT r hr
    unfold tbF tkF
    rw [e1, e3, e4, e5, hb 7 r hr, hb 8 r hr, h92]
  · show qA _ _ _ = qA _ _ _
    obtain ⟨e1, e2, e3, e4, e5, e6, e7⟩ := aT r hr
    rw [show tmF S' b' r = tmF S b r from funext fun i => by
      unfold tmF
      rw [e3]
      by_cases h : i < S.2.1 16 r
      · rw [if_pos h, if_pos h, e7 i h, hb 0 _ (fT r hr i h)]
      · rw [if_neg h, if_neg h]]
  · show iA _ _ _ = iA _ _ _
    obtain ⟨e1, e2, e3, e4, e5, e6, e7⟩ := aT r hr
    rw [show slF S' r = slF S r from funext fun i => by
      unfold slF
      rw [e2]
      by_cases h : i < S.2.1 15 r
      · rw [if_pos h, if_pos h, e6 i h]
      · rw [if_neg h, if_neg h], e2]
  · show (Sum.inr (6, ktF S' b') : va_E) = Sum.inr (6, ktF S b)
    unfold ktF
    rw [a1, a3, a4, h91, h92, h93]
  · show qA _ _ _ = qA _ _ _
    rw [show plcF S' b' = plcF S b from funext fun j => by
      unfold plcF pvo
      by_cases h : j < 10
      · obtain ⟨p1, p2⟩ := aP j h
        have p1 : kd S' j = kd S j := p1
        have p2 : wh S' j = wh S j := p2
        rw [if_pos h, if_pos h, p1, p2]
        by_cases h0 : kd S j = 0
        · rw [if_pos h0, if_pos h0]
        · rw [if_neg h0, if_neg h0, hb _ _ (fP j h h0)]
      · rw [if_neg h, if_neg h]]
  · show (Sum.inr (2, [Value.ref (b'.1 10 0), Value.int (nI (S'.1 21))]) : va_E) = Sum.inr (2, [Value.ref (b.1 10 0), Value.int (nI (S.1 21))])
    rw [a2, h10]
  · show iA _ _ _ = iA _ _ _
    rw [hb2]
  · show qA _ _ _ = qA _ _ _
    rw [show plF S' b' = plF S b from funext fun i => by
      unfold plF
      rw [a2]
      by_cases h : i < S.1 21
      · rw [if_pos h, if_pos h, aK i h, hb 0 _ (fK i h)]
      · rw [if_neg h, if_neg h], a2]
/-- a book with a new row: its object q and its cells c -/
def bkU (b : xB) (k0 n q c : Nat) : xB := (fun k r => if r = n then (if k = k0 then q else if k = k0 + 1 then c else b.1 k r) else b.1 k r, b.2)
theorem bkU_o {b : xB} {k0 n q c k r : Nat} (h : ¬ ((k = k0 ∨ k = k0 + 1) ∧ r = n)) : (bkU b k0 n q c).1 k r = b.1 k r := by
  show (if r = n then (if k = k0 then q else if k = k0 + 1 then c else b.1 k r) else b.1 k r) = _
  by_cases e : r = n
  · rw [if_pos e, if_neg (by omega), if_neg (by omega)]
  · rw [if_neg e]
theorem bkU_q {b : xB} {k0 n q c : Nat} : (bkU b k0 n q c).1 k0 n = q := by
  show (if n = n then (if k0 = k0 then q else _) else _) = _
  rw [if_pos rfl, if_pos rfl]
theorem bkU_c {b : xB} {k0 n q c : Nat} : (bkU b k0 n q c).1 (k0 + 1) n = c := by
  show (if n = n then (if k0 + 1 = k0 then q else if k0 + 1 = k0 + 1 then c else _) else _) = _
  rw [if_pos rfl, if_neg (by omega), if_pos rfl]
section XN
variable {cy : Nat → ClassId} {S S' : aS} {b : xB} {L : List Nat} {f : Nat → va_E} {q c n : Nat} {e e2 : va_E}
theorem xN.new (h : xR cy S b L f) (hq : q ∉ L) : xN cy S b (L ++ [q]) (va_up f q e) q e := ⟨⟨by simp, va_up_self _ _ _⟩, h.off hq⟩
theorem xN.more (h : xN cy S b L f q e) (hc : c ∉ L) : xN cy S b (L ++ [c]) (va_up f c e2) q e := ⟨⟨List.mem_append_left _ h.1.1, by rw [va_up_ne _ _ (show q ≠ c from fun z => hc (z ▸ h.1.1))]; exact h.1.2⟩, h.2⟩
theorem xN.ne (h : xN cy S b L f q e) (hc : c ∉ L) : q ≠ c := fun z => hc (z ▸ h.1.1)
theorem xN.put (h : xN cy S b L f q e) : xN cy S b L (va_up f q e2) q e2 := ⟨⟨h.1.1, va_up_self _ _ _⟩, h.2⟩
theorem xN.keep (h : xN cy S b L f q e) (hc : q ≠ c) : xN cy S b L (va_up f c e2) q e := ⟨⟨h.1.1, by rw [va_up_ne _ _ hc]; exact h.1.2⟩, h.2⟩
theorem xR.put (h : xR cy S b L f) (hN : xN cy S b L f q e) : xR cy S b L (va_up f q e2) := h.aside hN.2
theorem xR.row (h : xR cy S b L f) (k0 : Nat) (hk0 : k0 = 0 ∨ k0 = 2 ∨ k0 = 4) (hq : xN cy S b L f q e) (hc : xN cy S b L f c e2) (hqc : q ≠ c) (hn : ¬ xV S k0 n) (hA : xA S S') (hF : xF S)
    (hv : ∀ k r, xV S' k r → xV S k r ∨ ((k = k0 ∨ k = k0 + 1) ∧ r = n)) (hn1 : ¬ xV S (k0 + 1) n)
    (he : e = xE cy S' (bkU b k0 n q c) k0 n) (he2 : e2 = xE cy S' (bkU b k0 n q c) (k0 + 1) n) : xR cy S' (bkU b k0 n q c) L f ∧ xG S b (bkU b k0 n q c) := by
  have hbo : ∀ k r, xV S k r → (bkU b k0 n q c).1 k r = b.1 k r := fun k r hk => bkU_o (fun z => by
    obtain ⟨z1, z2⟩ := z
    subst z2
    rcases z1 with z1 | z1
    · rw [z1] at hk; exact hn hk
    · rw [z1] at hk; exact hn1 hk)
  refine ⟨h.ext (fun k r => (k = k0 ∨ k = k0 + 1) ∧ r = n) (fun _ z => z) (fun k r hk hw => ?_) (fun k r hw => ?_) (fun k r k' r' h1 h2 h3 => ?_), fun k r _ _ hk => hbo k r hk⟩
  · have hk' : xV S k r := by
      rcases hv k r hk with z | z
      · exact z
      · exact absurd z hw
    exact ⟨hk', hbo k r hk', (h.1 k r hk').2.trans (xE_ext hA hF hbo rfl hk').symm⟩
  · obtain ⟨z1, z2⟩ := hw
    subst z2
    rcases z1 with z1 | z1
    · subst z1
      rw [bkU_q]
      exact ⟨hq.1.1, hq.2, hq.1.2.trans he⟩
    · subst z1
      rw [bkU_c]
      exact ⟨hc.1.1, hc.2, hc.1.2.trans he2⟩
  · obtain ⟨z1, z2⟩ := h1
    obtain ⟨y1, y2⟩ := h2
    subst z2 y2
    rcases z1 with z1 | z1 <;> rcases y1 with y1 | y1 <;> subst z1 <;> rw [y1] at h3 ⊢
    · exact ⟨rfl, rfl⟩
    · rw [bkU_q, bkU_c] at h3; exact absurd h3 hqc
    · rw [bkU_q, bkU_c] at h3; exact absurd h3.symm hqc
    · exact ⟨rfl, rfl⟩
end XN
