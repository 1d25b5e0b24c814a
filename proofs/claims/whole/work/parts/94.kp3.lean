theorem nar_b (v : Int32) : v.toInt8.toInt32.toInt8.toInt32 = v.toInt8.toInt32 := by simp
theorem nar_c (v : Int32) : (v &&& nI 65535).toUInt32.toUInt16.toUInt32.toInt32 = v &&& nI 65535 := by rw [← cut_c]; exact pk_vc v
/-- bytes of one row are others, all else is as it was -/
theorem LI.by6 {k : Nat} {S S' : aS} {r : Nat} (h : LI k S) (e1 : S'.1 = S.1) (e2 : S'.2.1 = S.2.1) (e9 : S'.2.2 9 = S.2.2 9) (h6 : ∀ q, q < S.1 4 → q ≠ r → ∀ i, i < 16 → S'.2.2 6 (16 * q + i) = S.2.2 6 (16 * q + i)) (hn : ∀ i, i < 16 * S.1 4 → (S'.2.2 6 i).toInt8.toInt32 = S'.2.2 6 i) : LI (k + 1) S' := by
  obtain ⟨h1, h2, G, X, h3, h4, h5⟩ := h
  have hl := h1.2.2.1
  obtain ⟨x, hx⟩ := h3.put (S' := S') (r := r) (by rw [e1]) (by rw [e1]) (by rw [e2]) (by rw [e2]) (fun q hq hne => con_eq (by rw [e2]) (fun i hi => h6 q hq hne i (by have := hl q hq; omega)))
  obtain ⟨a1, a2, a3, a4, a5, a6, a7, a8, a9, a10⟩ := h1
  have et : tmS S' (S.1 13) = tmS S (S.1 13) := tmS_eq _ (fun t _ => by rw [e2])
  refine ⟨⟨by rw [e1]; exact a1, fun j hj => pOk.mo (S := S) (a2 j hj) (by rw [e2]) (by rw [e2]) (by rw [e1]; exact Nat.le_refl _) (by rw [e1]; exact Nat.le_refl _) (by rw [e1]; exact Nat.le_refl _) (by rw [e1]; exact Nat.le_refl _) (fun _ _ => by rw [e2]), by rw [e1, e2]; exact a3, by rw [e1, e2]; exact a4, by rw [e1, e2]; exact a5, by rw [e1, e2]; exact a6, fun t ht => tOk.of_eq (S := S) (by rw [e1]; exact Nat.le_refl _) (by rw [e2]) (by rw [e2]) (by rw [e2]) (fun _ _ => by rw [e2]) (fun _ _ => by rw [e2]) (a7 t (by rw [← e1]; exact ht)), by rw [e1, e2]; exact a8, by rw [e1]; exact hn, by rw [e1, e9]; exact a10⟩, ?_, _, _, hx, by rw [List.length_cons]; omega, by rw [List.length_cons]; omega⟩
  rw [e1, et]
  omega
/-- signs of a row, or cells of ROWS, are others -/
theorem LI.by9 {k : Nat} {S S' : aS} (h : LI k S) (e1 : S'.1 = S.1) (e2 : ∀ j, j ≠ 12 → S'.2.1 j = S.2.1 j) (e6 : S'.2.2 6 = S.2.2 6) (h12 : ∀ i, i < 16 * S.1 10 → S'.2.1 12 i ≤ S.1 4) (hn : ∀ i, i < 16 * S.1 7 → (S'.2.2 9 i).toUInt32.toUInt16.toUInt32.toInt32 = S'.2.2 9 i) : LI (k + 1) S' := by
  obtain ⟨h1, h2, G, X, h3, h4, h5⟩ := h
  have hJ := h3.eq (S' := S') (by rw [e1]) (by rw [e1]) (e2 5 (by decide)) (e2 22 (by decide)) e6
  obtain ⟨a1, a2, a3, a4, a5, a6, a7, a8, a9, a10⟩ := h1
  have et : tmS S' (S.1 13) = tmS S (S.1 13) := tmS_eq _ (fun t _ => by rw [e2 16 (by decide)])
  refine ⟨⟨by rw [e1]; exact a1, fun j hj => pOk.mo (S := S) (a2 j hj) (by rw [e2 2 (by decide)]) (by rw [e2 3 (by decide)]) (by rw [e1]; exact Nat.le_refl _) (by rw [e1]; exact Nat.le_refl _) (by rw [e1]; exact Nat.le_refl _) (by rw [e1]; exact Nat.le_refl _) (fun _ _ => by rw [e2 14 (by decide)]), by rw [e1, e2 5 (by decide)]; exact a3, by rw [e1, e2 8 (by decide)]; exact a4, by rw [e1, e2 11 (by decide)]; exact a5, by rw [e1]; exact h12, fun t ht => tOk.of_eq (S := S) (by rw [e1]; exact Nat.le_refl _) (by rw [e2 14 (by decide)]) (by rw [e2 15 (by decide)]) (by rw [e2 16 (by decide)]) (fun _ _ => by rw [e2 19 (by decide)]) (fun _ _ => by rw [e2 20 (by decide)]) (a7 t (by rw [← e1]; exact ht)), by rw [e1, e2 22 (by decide)]; exact a8, by rw [e1, e6]; exact a9, by rw [e1]; exact hn⟩, ?_, G, X, hJ, by omega, by omega⟩
  rw [e1, et]
  omega
section Steps8
variable {k : Nat} {S : aS}
theorem l_set (h : LI k S) (p t i v : Int32) : LI (k + 1) (s_set S p t i v).2 := by
  unfold s_set
  split
  · rename_i hp
    obtain ⟨pj, hpj, rfl⟩ := isP_j hp
    have hpl : pl (nI pj) = pj := nI_clamp (by omega)
    rw [hpl]
    split
    · rename_i ht
      obtain ⟨tj, t1, t2, rfl⟩ := ty_j (lo := 1) (hi := 2) (by decide) ht (by decide)
      have htl : pl (nI tj) = tj := nI_clamp (by omega)
      rw [htl]
      split
      · exact h.st Qt.fl
      · rename_i hc
        have hc0 := castF_0 (show castF S pj tj = 0 by omega)
        have hkd : kd S pj = tj := by have := hc0.2; omega
        have hl := h.1.lg hpj (by omega) (by omega)
        split
        · rename_i hi
          obtain ⟨ij, hij, rfl⟩ := (inR_j (show longS S pj < 2 ^ 30 by omega)).mp hi
          have hil : pl (nI ij) = ij := nI_clamp (by omega)
          rw [hil]
          rcases (show tj = 1 ∨ tj = 2 by omega) with rfl | rfl
          · rw [if_pos rfl]
            have hw := h.1.wl hpj hkd
            refine (h.qt (S' := thS S) Qt.th).by6 (r := wh S pj) rfl rfl rfl (fun q hq hne i hi => if_neg (by omega)) (fun i hi => ?_)
            show (if i = 16 * wh S pj + ij then v.toInt8.toInt32 else S.2.2 6 i).toInt8.toInt32 = (if i = 16 * wh S pj + ij then v.toInt8.toInt32 else S.2.2 6 i)
            split
            · exact nar_b v
            · exact h.1.2.2.2.2.2.2.2.2.1 i hi
          · rw [if_neg (show ¬ (nI 2 = nI 1) by decide)]
            refine (h.qt (S' := thS S) Qt.th).by9 rfl (fun _ _ => rfl) rfl h.1.2.2.2.2.2.1 (fun i hi => ?_)
            show (if i = 16 * wh S pj + ij then v &&& nI 65535 else S.2.2 9 i).toUInt32.toUInt16.toUInt32.toInt32 = (if i = 16 * wh S pj + ij then v &&& nI 65535 else S.2.2 9 i)
            split
            · exact nar_c v
            · exact h.1.2.2.2.2.2.2.2.2.2 i hi
        · exact h.st Qt.fl
    · exact h.st Qt.th
  · exact h.st Qt.th
theorem l_lay (h : LI k S) (p i q : Int32) : LI (k + 1) (s_lay S p i q).2 := by
  unfold s_lay
  split
  · split
    · rename_i hp hq
      obtain ⟨pj, hpj, rfl⟩ := isP_j hp
      obtain ⟨qj, hqj, rfl⟩ := isP_j hq
      have hpl : pl (nI pj) = pj := nI_clamp (by omega)
      have hql : pl (nI qj) = qj := nI_clamp (by omega)
      rw [hpl, hql]
      split
      · exact h.st Qt.fl
      · split
        · exact h.st Qt.fl
        · rename_i h2 h3
          split
          · have hv : (if kd S qj = 0 then 0 else wh S qj + 1) ≤ S.1 4 := by
              split
              · exact Nat.zero_le _
              · have : castF S qj 1 ≠ 2 := fun z => h2 (Or.inr z)
                have c2 := castF_2 (S := S) (j := qj) (t := 1)
                by_cases e : castF S qj 1 = 0
                · have := (castF_0 e).2
                  have := h.1.wl hqj (by omega)
                  omega
                · exfalso
                  unfold castF at e this
                  rename_i hz
                  rw [if_neg hz] at e this
                  by_cases q9 : isO S qj 1
                  · rw [if_pos q9] at e; exact e rfl
                  · rw [if_neg q9] at this; exact this rfl
            refine (h.qt (S' := thS S) Qt.th).by9 rfl (fun j hj => va_up_ne _ _ hj) rfl (fun x hx => ?_) h.1.2.2.2.2.2.2.2.2.2
            show va_up (S.2.1 12) _ _ x ≤ S.1 4
            by_cases e : x = 16 * wh S pj + pl i
            · rw [e, va_up_self]; exact hv
            · rw [va_up_ne _ _ e]; exact h.1.2.2.2.2.2.1 x hx
          · exact h.st Qt.fl
    · exact h.st Qt.th
  · exact h.st Qt.th
theorem l_copy (h : LI k S) (p a q e n : Int32) : LI (k + 1) (s_copy S p a q e n).2 := by
  unfold s_copy
  split
  · split
    · rename_i hp hq
      obtain ⟨pj, hpj, rfl⟩ := isP_j hp
      obtain ⟨qj, hqj, rfl⟩ := isP_j hq
      have hpl : pl (nI pj) = pj := nI_clamp (by omega)
      have hql : pl (nI qj) = qj := nI_clamp (by omega)
      rw [hpl, hql]
      split
      · exact h.st Qt.fl
      · split
        · exact h.st Qt.fl
        · rename_i h2 h3
          have k1 : kd S pj ≠ 0 := fun z => h2 (Or.inl z)
          have k2 : kd S pj ≤ 3 := Nat.le_of_not_lt (fun z => h3 (Or.inl z))
          have k3 : kd S pj = kd S qj := Decidable.byContradiction (fun z => h3 (Or.inr z))
          have hl1 := h.1.lg hpj k1 k2
          have hl2 := h.1.lg hqj (by omega) (by omega)
          split
          · exact h.st Qt.fl
          · split
            · exact h.st Qt.fl
            · split
              · exact h.st Qt.fl
              · split
                · exact h.st Qt.fl
                · split
                  · exact h.st Qt.fl
                  · rename_i c1 c2 c3 c4 c5
                    obtain ⟨aj, nj, han, rfl, rfl⟩ := cpy_of hl1 c1 c3 (le_of_nlt32 c4)
                    obtain ⟨ej, n9, hen, rfl, hn9⟩ := cpy_of hl2 c2 c3 (Decidable.byContradiction fun z => c5 z)
                    have hn9 : nj = n9 := by
                      have z := congrArg Int32.toNatClampNeg hn9
                      rwa [nI_clamp (by omega), nI_clamp (by omega)] at z
                    subst hn9
                    have pa : pl (nI aj) = aj := nI_clamp (by omega)
                    have pe : pl (nI ej) = ej := nI_clamp (by omega)
                    have pn : pl (nI nj) = nj := nI_clamp (by omega)
                    rw [pa, pe, pn]
                    show LI (k + 1) (cpyS (thS S) pj aj qj ej nj)
                    have h0 := h.qt (S' := thS S) Qt.th
                    unfold cpyS
                    split
                    · rename_i e1
                      have e1 : kd S pj = 1 := e1
                      have w1 := h.1.wl hpj e1
                      have w2 := h.1.wl hqj (by omega)
                      refine h0.by6 (r := wh S qj) rfl rfl rfl (fun q hq hne i hi => ?_) (fun i hi => ?_)
                      · have l2 : longS S qj ≤ 16 := hl2
                        show (if 16 * wh S qj + ej ≤ 16 * q + i ∧ 16 * q + i < 16 * wh S qj + ej + nj then _ else S.2.2 6 (16 * q + i)) = S.2.2 6 (16 * q + i)
                        rw [if_neg (by omega)]
                      · have e6 : (aWr (aWr (thS S) 25 0 nj (fun i => atS (thS S) pj (aj + i))) 6 (16 * wh (thS S) qj + ej) nj (fun i => atS (thS S) pj (aj + i))).2.2 6 i = if 16 * wh S qj + ej ≤ i ∧ i < 16 * wh S qj + ej + nj then atS S pj (aj + (i - (16 * wh S qj + ej))) else S.2.2 6 i := rfl
                        rw [e6]
                        by_cases c : 16 * wh S qj + ej ≤ i ∧ i < 16 * wh S qj + ej + nj
                        · rw [if_pos c, show atS S pj (aj + (i - (16 * wh S qj + ej))) = S.2.2 6 (16 * wh S pj + (aj + (i - (16 * wh S qj + ej)))) from if_pos e1]
                          exact h.1.2.2.2.2.2.2.2.2.1 _ (by omega)
                        · rw [if_neg c]
                          exact h.1.2.2.2.2.2.2.2.2.1 i hi
                    · split
                      · rename_i e0 e1
                        have e0 : ¬ kd S pj = 1 := e0
                        have e1 : kd S pj = 2 := e1
                        have w1 := h.1.ws hpj e1
                        have w2 := h.1.ws hqj (by omega)
                        refine h0.by9 rfl (fun _ _ => rfl) rfl h.1.2.2.2.2.2.1 (fun i hi => ?_)
                        have e6 : (aWr (aWr (thS S) 25 0 nj (fun i => atS (thS S) pj (aj + i))) 9 (16 * wh (thS S) qj + ej) nj (fun i => atS (thS S) pj (aj + i))).2.2 9 i = if 16 * wh S qj + ej ≤ i ∧ i < 16 * wh S qj + ej + nj then atS S pj (aj + (i - (16 * wh S qj + ej))) else S.2.2 9 i := rfl
                        rw [e6]
                        by_cases c : 16 * wh S qj + ej ≤ i ∧ i < 16 * wh S qj + ej + nj
                        · rw [if_pos c, show atS S pj (aj + (i - (16 * wh S qj + ej))) = S.2.2 9 (16 * wh S pj + (aj + (i - (16 * wh S qj + ej)))) from (if_neg e0).trans (if_pos e1)]
                          exact h.1.2.2.2.2.2.2.2.2.2 _ (by omega)
                        · rw [if_neg c]
                          exact h.1.2.2.2.2.2.2.2.2.2 i hi
                      · rename_i e0 e1
                        have e0 : ¬ kd S pj = 1 := e0
                        have e1 : ¬ kd S pj = 2 := e1
                        have w1 := h.1.wr hpj (by omega)
                        have w2 := h.1.wr hqj (by omega)
                        refine h0.by9 rfl (fun j hj => va_up_ne _ _ hj) rfl (fun i hi => ?_) h.1.2.2.2.2.2.2.2.2.2
                        have e6 : (aNr (aWr (thS S) 25 0 nj (fun i => atS (thS S) pj (aj + i))) 12 (16 * wh (thS S) qj + ej) nj (fun i => (thS S).2.1 12 (16 * wh (thS S) pj + (aj + i)))).2.1 12 i = if 16 * wh S qj + ej ≤ i ∧ i < 16 * wh S qj + ej + nj then S.2.1 12 (16 * wh S pj + (aj + (i - (16 * wh S qj + ej)))) else S.2.1 12 i := rfl
                        rw [e6]
                        show _ ≤ S.1 4
                        by_cases c : 16 * wh S qj + ej ≤ i ∧ i < 16 * wh S qj + ej + nj
                        · rw [if_pos c]; exact h.1.2.2.2.2.2.1 _ (by omega)
                        · rw [if_neg c]; exact h.1.2.2.2.2.2.1 i hi
    · exact h.st Qt.th
  · exact h.st Qt.th
theorem l_twin (h : LI k S) (hk : k ≤ 511) (p q : Int32) : LI (k + 1) (s_twin S p q).2 := by
  have hb := h.b4 (by omega)
  unfold s_twin
  split
  · split
    · rename_i hp hq
      obtain ⟨qj, hqj, rfl⟩ := isP_j hq
      have hql : pl (nI qj) = qj := nI_clamp (by omega)
      rw [hql]
      have h0 := h.qt (S' := thS S) Qt.th
      obtain ⟨a1, ⟨a7, a10, a13, a4, at9⟩, G, X, hJ, hG, hX⟩ := h0
      have z7 : S.1 7 ≤ k := a7
      have z10 : S.1 10 ≤ k := a10
      have z13 : S.1 13 ≤ k := a13
      have z4 : S.1 4 ≤ 100 * (k - S.1 13) := a4
      have zt : S.1 4 + S.1 13 ≤ k + tmS (thS S) ((thS S).1 13) := at9
      split
      · exact h.st Qt.fl
      · split
        · exact h.st Qt.fl
        · rename_i k0 k3
          split
          · rename_i k1
            have hw := h.1.wl hqj k1
            have e1 : LI (k + 1) (twinB (thS S) (wh S qj)) := LI.mk (S := S) (a1.twin (show wh S qj < (thS S).1 4 from hw) (show S.1 4 + 1 ≤ 39000 by omega)) (show S.1 7 ≤ k + 1 by omega) (show S.1 10 ≤ k + 1 by omega) (show S.1 13 ≤ k + 1 by omega) (show S.1 4 + 1 ≤ 100 * (k + 1 - S.1 13) by omega) (by
              rw [show tmS (twinB (thS S) (wh S qj)) ((twinB (thS S) (wh S qj)).1 13) = tmS (thS S) ((thS S).1 13) from tmS_eq _ (fun _ _ => rfl)]
              show S.1 4 + 1 + S.1 13 ≤ k + 1 + _
              omega) (hJ.twin (show wh S qj < (thS S).1 4 from hw)) (by omega) (by omega)
            exact e1.hold ⟨by decide, fun z => absurd z (by decide), fun _ => show S.1 4 < S.1 4 + 1 by omega, fun z => absurd z (by decide), fun z => absurd z (by decide), fun z => absurd z (by decide)⟩
          · rename_i k1
            have hl := h.1.lg hqj k0 (by omega)
            split
            · rename_i k2
              have hw := h.1.ws hqj k2
              have e1 : LI (k + 1) (aSc (newSg (thS S) (longS S qj) (fun k => S.2.2 9 (16 * wh S qj + k))) 7 (S.1 7 + 1)) := LI.mk (S := S) (a1.nG hl (show S.1 7 + 1 ≤ 590 by omega) (fun i hi => h.1.2.2.2.2.2.2.2.2.2 _ (by omega))) (show S.1 7 + 1 ≤ k + 1 by omega) (show S.1 10 ≤ k + 1 by omega) (show S.1 13 ≤ k + 1 by omega) (show S.1 4 ≤ 100 * (k + 1 - S.1 13) by omega) (by
                rw [show tmS (aSc (newSg (thS S) (longS S qj) (fun k => S.2.2 9 (16 * wh S qj + k))) 7 (S.1 7 + 1)) ((aSc (newSg (thS S) (longS S qj) (fun k => S.2.2 9 (16 * wh S qj + k))) 7 (S.1 7 + 1)).1 13) = tmS (thS S) ((thS S).1 13) from tmS_eq _ (fun _ _ => rfl)]
                show S.1 4 + S.1 13 ≤ k + 1 + _
                omega) (hJ.eq rfl rfl rfl rfl rfl) (by omega) (by omega)
              exact e1.hold ⟨by decide, fun z => absurd z (by decide), fun z => absurd z (by decide), fun _ => show S.1 7 < S.1 7 + 1 by omega, fun z => absurd z (by decide), fun z => absurd z (by decide)⟩
            · rename_i k2
              have hw := h.1.wr hqj (by omega)
              have e1 : LI (k + 1) (aSc (newRw (thS S) (longS S qj) (fun k => S.2.1 12 (16 * wh S qj + k))) 10 (S.1 10 + 1)) := LI.mk (S := S) (a1.nW hl (show S.1 10 + 1 ≤ 590 by omega) (fun i hi => h.1.2.2.2.2.2.1 _ (by omega))) (show S.1 7 ≤ k + 1 by omega) (show S.1 10 + 1 ≤ k + 1 by omega) (show S.1 13 ≤ k + 1 by omega) (show S.1 4 ≤ 100 * (k + 1 - S.1 13) by omega) (by
                rw [show tmS (aSc (newRw (thS S) (longS S qj) (fun k => S.2.1 12 (16 * wh S qj + k))) 10 (S.1 10 + 1)) ((aSc (newRw (thS S) (longS S qj) (fun k => S.2.1 12 (16 * wh S qj + k))) 10 (S.1 10 + 1)).1 13) = tmS (thS S) ((thS S).1 13) from tmS_eq _ (fun _ _ => rfl)]
                show S.1 4 + S.1 13 ≤ k + 1 + _
                omega) (hJ.eq rfl rfl rfl rfl rfl) (by omega) (by omega)
              exact e1.hold ⟨by decide, fun z => absurd z (by decide), fun z => absurd z (by decide), fun z => absurd z (by decide), fun _ => show S.1 10 < S.1 10 + 1 by omega, fun z => absurd z (by decide)⟩
    · exact h.st Qt.th
  · exact h.st Qt.th
end Steps8
theorem com_tm {S : aS} {t r n : Nat} (hI : aI S) (hr : r < S.1 4) (ht : t < n) : (comS S t r).2.1 4 + tmS S n ≤ S.1 4 + tmS (comS S t r).2 n := by
  have hf := rowF_f (t := t) (hI.lkA t r) (show r < (lkA S t r).1 4 from hr)
  have h0 : tmS (lkA S t r) n = tmS S n := tmS_eq _ (fun _ _ => rfl)
  rw [com_A]
  show (comA S t r).2.1 4 + tmS S n ≤ S.1 4 + tmS (sc2 (comA S t r).2 _ _) n
  rw [show tmS (sc2 (comA S t r).2 (S.1 23 + (lk S t r).2) (S.1 24 + 1)) n = tmS (comA S t r).2 n from tmS_eq _ (fun _ _ => rfl)]
  unfold comA
  by_cases e : 0 < S.2.1 19 (256 * t + (lk S t r).1)
  · rw [if_pos e]
    show S.1 4 + tmS S n ≤ S.1 4 + tmS (lkA S t r) n
    omega
  · rw [if_neg e]
    by_cases e2 : S.2.1 16 t = 100
    · rw [if_pos e2]
      show S.1 4 + tmS S n ≤ S.1 4 + tmS (lkA S t r) n
      omega
    · rw [if_neg e2]
      have e3 : tmS (rowF (lkA S t r) t r).2 n = tmS S n := by rw [← h0]; exact tmS_eq _ (fun t _ => by rw [hf.1 16 (by decide) (by decide)])
      have e4 := tmS_up (newTm_f (S := (rowF (lkA S t r) t r).2) (t := t) (w := (rowF (lkA S t r) t r).1) (i := (lk S t r).1)).2.2.2.1 n
      rw [if_pos ht, if_pos ht] at e4
      have e5 : (newTm (rowF (lkA S t r) t r).2 t (rowF (lkA S t r) t r).1 (lk S t r).1).1 4 ≤ S.1 4 + 1 := hf.2.2.2.1
      show (grwS _ t).1 4 + tmS S n ≤ S.1 4 + tmS (grwS _ t) n
      have hg := growS_f (S := newTm (rowF (lkA S t r) t r).2 t (rowF (lkA S t r) t r).1 (lk S t r).1) (t := t)
      unfold grwS
      split
      · have e6 : tmS (growS (newTm (rowF (lkA S t r) t r).2 t (rowF (lkA S t r) t r).1 (lk S t r).1) t) n = tmS (newTm (rowF (lkA S t r) t r).2 t (rowF (lkA S t r) t r).1 (lk S t r).1) n := tmS_eq n (fun u _ => by rw [hg.2.2.1 16 (by decide) (by decide) (by decide)])
        rw [hg.1, e6]
        omega
      · omega
theorem com_1 {S : aS} {t r : Nat} (hI : aI S) (hr : r < S.1 4) : (comS S t r).2.1 7 = S.1 7 ∧ (comS S t r).2.1 10 = S.1 10 ∧ (comS S t r).2.1 13 = S.1 13 := by
  have hf := comA_f (t := t) hI hr
  rw [com_A]
  exact ⟨hf.1 7 (by decide) (by decide), hf.1 10 (by decide) (by decide), hf.1 13 (by decide) (by decide)⟩
theorem bthF_0 {S : aS} {j q t : Nat} (h : bthF S j q t = 0) : castF S j 4 = 0 ∧ castF S q t = 0 := by
  unfold bthF at h
  have a := castF_2 (S := S) (j := j) (t := 4)
  have b := castF_2 (S := S) (j := q) (t := t)
  split at h
  · omega
  · split at h
    · omega
    · omega
theorem mg_all {G : List (List Int32)} {X : List Nat} {t u N : Nat} : ∀ m k n Z, k + m = N → mI t u N k Z → Jk G X Z → aI (mgG t u m k n Z).2 ∧ (mgG t u m k n Z).2.1 4 ≤ Z.1 4 + m ∧ (mgG t u m k n Z).2.1 4 + tmS Z (Z.1 13) ≤ Z.1 4 + tmS (mgG t u m k n Z).2 (Z.1 13) ∧ ((mgG t u m k n Z).2.1 7 = Z.1 7 ∧ (mgG t u m k n Z).2.1 10 = Z.1 10 ∧ (mgG t u m k n Z).2.1 13 = Z.1 13) ∧ Jk G X (mgG t u m k n Z).2
  | 0, _, _, Z, _, h, hJ => ⟨h.1, Nat.le_refl _, Nat.le_refl _, ⟨rfl, rfl, rfl⟩, hJ⟩
  | m + 1, k, n, Z, hN, h, hJ => by
    have hr := h.1.tt h.2.2.1 (show k < Z.2.1 16 u by have := h.2.2.2.1; omega)
    have hs := h.step (show k < N by omega)
    obtain ⟨c1, c2, c3, c4, c5⟩ := aI_com h.1 h.2.1 hr (by have := h.2.2.2.2; omega)
    have c6 := com_tm (n := Z.1 13) h.1 hr h.2.1
    have c7 := com_1 (t := t) h.1 hr
    have c8 := hJ.com (t := t) hr
    rw [mgG]
    split
    · exact ⟨c1, by show (comS Z t (Z.2.1 20 (100 * u + k))).2.1 4 ≤ Z.1 4 + (m + 1); omega, c6, c7, c8⟩
    · obtain ⟨d1, d2, d3, d4, d5⟩ := mg_all m (k + 1) (n + ((comS Z t (Z.2.1 20 (100 * u + k))).2.2.1 16 t - Z.2.1 16 t)) (comS Z t (Z.2.1 20 (100 * u + k))).2 (by omega) hs c8
      rw [c7.2.2] at d3
      exact ⟨d1, by omega, by omega, ⟨d4.1.trans c7.1, d4.2.1.trans c7.2.1, d4.2.2.trans c7.2.2⟩, d5⟩
section Steps7
variable {k : Nat} {S : aS}
theorem l_add (h : LI k S) (hk : k ≤ 511) (p q : Int32) : LI (k + 1) (s_add S p q).2 := by
  have hb := h.b4 (by omega)
  unfold s_add
  split
  · split
    · rename_i hp hq
      obtain ⟨pj, hpj, rfl⟩ := isP_j hp
      obtain ⟨qj, hqj, rfl⟩ := isP_j hq
      have hpl : pl (nI pj) = pj := nI_clamp (by omega)
      have hql : pl (nI qj) = qj := nI_clamp (by omega)
      rw [hpl, hql]
      split
      · exact h.st Qt.fl
      · rename_i hc
        obtain ⟨b1, b2⟩ := bthF_0 (show bthF S pj qj 1 = 0 by omega)
        have ht := h.1.wt hpj (by have := (castF_0 b1).2; omega)
        have hr := h.1.wl hqj (by have := (castF_0 b2).2; omega)
        have h0 := h.qt (S' := thS S) Qt.th
        obtain ⟨a1, ⟨a7, a10, a13, a4, at9⟩, G, X, hJ, hG, hX⟩ := h0
        have z4 : S.1 4 ≤ 100 * (k - S.1 13) := a4
        have z13 : S.1 13 ≤ k := a13
        obtain ⟨c1, c2, c3, c4, c5⟩ := aI_com a1 (show wh S pj < (thS S).1 13 from ht) (show wh S qj < (thS S).1 4 from hr) (show S.1 4 + 1 ≤ 39000 by omega)
        have c6 := com_tm (n := (thS S).1 13) a1 (show wh S qj < (thS S).1 4 from hr) (show wh S pj < (thS S).1 13 from ht)
        have c7 := com_1 (t := wh S pj) a1 (show wh S qj < (thS S).1 4 from hr)
        have c8 := hJ.com (t := wh S pj) (show wh S qj < (thS S).1 4 from hr)
        have c2 : (comS (thS S) (wh S pj) (wh S qj)).2.1 4 ≤ S.1 4 + 1 := c2
        have e13 : (thS S).1 13 = S.1 13 := rfl
        refine LI.mk (S := S) c1 (by rw [c7.1]; omega) (by rw [c7.2.1]; omega) (by rw [c7.2.2]; omega) (by rw [c7.2.2, e13]; omega) (by rw [c7.2.2]; omega) c8 (by omega) (by omega)
    · exact h.st Qt.th
  · exact h.st Qt.th
theorem l_merge (h : LI k S) (hk : k ≤ 511) (p q : Int32) : LI (k + 1) (s_merge S p q).2 := by
  have hb := h.b4 (by omega)
  unfold s_merge
  split
  · split
    · rename_i hp hq
      obtain ⟨pj, hpj, rfl⟩ := isP_j hp
      obtain ⟨qj, hqj, rfl⟩ := isP_j hq
      have hpl : pl (nI pj) = pj := nI_clamp (by omega)
      have hql : pl (nI qj) = qj := nI_clamp (by omega)
      rw [hpl, hql]
      split
      · exact h.st Qt.fl
      · rename_i hc
        obtain ⟨b1, b2⟩ := bthF_0 (show bthF S pj qj 4 = 0 by omega)
        have ht := h.1.wt hpj (by have := (castF_0 b1).2; omega)
        have hu := h.1.wt hqj (by have := (castF_0 b2).2; omega)
        have hm := (h.1.tk hu).2.1
        have h0 := h.qt (S' := thS S) Qt.th
        obtain ⟨a1, ⟨a7, a10, a13, a4, at9⟩, G, X, hJ, hG, hX⟩ := h0
        have z4 : S.1 4 ≤ 100 * (k - S.1 13) := a4
        have z13 : S.1 13 ≤ k := a13
        obtain ⟨d1, d2, d3, d4, d5⟩ := mg_all (G := G) (X := X) (t := wh S pj) (u := wh S qj) (N := S.2.1 16 (wh S qj)) (S.2.1 16 (wh S qj)) 0 0 (thS S) (by omega) ⟨a1, ht, hu, Nat.le_refl _, show S.1 4 + (S.2.1 16 (wh S qj) - 0) ≤ 39000 by omega⟩ hJ
        have d2 : (mgG (wh S pj) (wh S qj) (S.2.1 16 (wh S qj)) 0 0 (thS S)).2.1 4 ≤ S.1 4 + S.2.1 16 (wh S qj) := d2
        have e13 : (thS S).1 13 = S.1 13 := rfl
        refine LI.mk (S := S) d1 (by rw [d4.1]; omega) (by rw [d4.2.1]; omega) (by rw [d4.2.2]; omega) (by rw [d4.2.2, e13]; omega) (by rw [d4.2.2]; omega) d5 (by omega) (by omega)
    · exact h.st Qt.th
  · exact h.st Qt.th
end Steps7
