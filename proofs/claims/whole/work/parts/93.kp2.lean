theorem LI.mk {k : Nat} {S S' : aS} {G : List (List Int32)} {X : List Nat} (h1 : aI S') (h7 : S'.1 7 ≤ k) (h10 : S'.1 10 ≤ k) (h13 : S'.1 13 ≤ k) (h4 : S'.1 4 ≤ 100 * (k - S'.1 13)) (ht : S'.1 4 + S'.1 13 ≤ k + tmS S' (S'.1 13)) (hJ : Jk G X S') (hG : G.length ≤ k) (hX : X.length ≤ k) : LI k S' := ⟨h1, ⟨h7, h10, h13, h4, ht⟩, G, X, hJ, hG, hX⟩
/-- a step of calls that answer a fault or a refusal alone -/
theorem LI.st {k : Nat} {S S' : aS} (h : LI k S) (q : Qt S S') : LI (k + 1) S' := (h.qt q).up
section Steps9
variable {k : Nat} {S : aS}
theorem l_move (h : LI k S) (p q : Int32) : LI (k + 1) (s_move S p q).2 := by
  unfold s_move
  split
  · rename_i hp
    split
    · exact ((h.qt Qt.th).hold ⟨by decide, fun _ => rfl, fun z => absurd z (by decide), fun z => absurd z (by decide), fun z => absurd z (by decide), fun z => absurd z (by decide)⟩).up
    · split
      · rename_i hq
        obtain ⟨qj, hqj, rfl⟩ := isP_j hq
        have hpl : pl (nI qj) = qj := nI_clamp (by omega)
        rw [hpl]
        exact ((h.qt Qt.th).hold (h.1.2.1 qj hqj)).up
      · exact h.st Qt.th
  · exact h.st Qt.th
theorem l_take (h : LI k S) (p q i : Int32) : LI (k + 1) (s_take S p q i).2 := by
  unfold s_take
  split
  · split
    · rename_i hp hq
      obtain ⟨qj, hqj, rfl⟩ := isP_j hq
      have hpl : pl (nI qj) = qj := nI_clamp (by omega)
      rw [hpl]
      split
      · exact h.st Qt.fl
      · rename_i hc
        have hc0 := castF_0 (show castF S qj 3 = 0 by omega)
        have h3 : kd S qj = 3 := by have := hc0.2; omega
        have hw := h.1.wr hqj h3
        have hlg : longS S qj = S.2.1 11 (wh S qj) := by unfold longS; rw [h3] <;> rfl
        have hl := h.1.2.2.2.2.1 _ hw
        rw [hlg]
        split
        · rename_i hi
          obtain ⟨ij, hij, rfl⟩ := (inR_j (show S.2.1 11 (wh S qj) < 2 ^ 30 by omega)).mp hi
          have hpi : pl (nI ij) = ij := nI_clamp (by omega)
          rw [hpi]
          split
          · exact ((h.qt Qt.th).hold ⟨by decide, fun _ => rfl, fun z => absurd z (by decide), fun z => absurd z (by decide), fun z => absurd z (by decide), fun z => absurd z (by decide)⟩).up
          · rename_i hz
            have := h.1.rc hw (show ij < 16 by omega)
            exact ((h.qt Qt.th).hold ⟨by decide, fun z => absurd z (by decide), fun _ => show _ < S.1 4 by omega, fun z => absurd z (by decide), fun z => absurd z (by decide), fun z => absurd z (by decide)⟩).up
        · exact h.st Qt.fl
    · exact h.st Qt.th
  · exact h.st Qt.th
theorem l_term (h : LI k S) (p q i : Int32) : LI (k + 1) (s_term S p q i).2 := by
  unfold s_term
  split
  · split
    · rename_i hp hq
      obtain ⟨qj, hqj, rfl⟩ := isP_j hq
      have hpl : pl (nI qj) = qj := nI_clamp (by omega)
      rw [hpl]
      split
      · exact h.st Qt.fl
      · rename_i hc
        have hc0 := castF_0 (show castF S qj 4 = 0 by omega)
        have h3 : 3 < kd S qj := by have := hc0.2; omega
        have hw := h.1.wt hqj h3
        have hk := h.1.tk hw
        split
        · rename_i hi
          obtain ⟨ij, hij, rfl⟩ := (inR_j (show S.2.1 16 (wh S qj) < 2 ^ 30 by have := hk.2.1; omega)).mp hi
          have hpi : pl (nI ij) = ij := nI_clamp (by have := hk.2.1; omega)
          rw [hpi]
          exact ((h.qt Qt.th).hold ⟨by decide, fun z => absurd z (by decide), fun _ => hk.2.2.2.2.1 ij hij, fun z => absurd z (by decide), fun z => absurd z (by decide), fun z => absurd z (by decide)⟩).up
        · exact h.st Qt.fl
    · exact h.st Qt.th
  · exact h.st Qt.th
theorem l_make (h : LI k S) (hk : k ≤ 511) (p c n : Int32) : LI (k + 1) (s_make S p c n).2 := by
  have hb := h.b4 (by omega)
  unfold s_make
  split
  · split
    · split
      · split
        · exact h.st Qt.fl
        · rename_i hp hc hn hn0
          obtain ⟨nj, hnj, rfl⟩ := nI_of hn0
          have hpl : pl (nI nj) = nj := nI_clamp hnj
          have hn16 : nj ≤ 16 := by
            rw [Int32.le_iff_toInt_le, nI_toInt hnj, nI_toInt (by decide)] at hn
            omega
          rw [hpl]
          have h0 := h.qt (S' := thS S) Qt.th
          obtain ⟨a1, ⟨a7, a10, a13, a4, at9⟩, G, X, hJ, hG, hX⟩ := h0
          split
          · have e1 : LI (k + 1) (newB (thS S) nj) := LI.mk (S := S) (a1.nB hn16 (show S.1 4 + 1 ≤ 39000 by omega)) (Nat.le_succ_of_le a7) (Nat.le_succ_of_le a10) (Nat.le_succ_of_le a13) (show S.1 4 + 1 ≤ 100 * (k + 1 - S.1 13) by have z1 : S.1 4 ≤ 100 * (k - S.1 13) := a4; have z2 : S.1 13 ≤ k := a13; omega) (by
              rw [show tmS (newB (thS S) nj) ((newB (thS S) nj).1 13) = tmS (thS S) ((thS S).1 13) from tmS_eq _ (fun _ _ => rfl)]
              show S.1 4 + 1 + S.1 13 ≤ k + 1 + _
              have z : S.1 4 + S.1 13 ≤ k + tmS (thS S) ((thS S).1 13) := at9
              omega) (hJ.make hn16) (by rw [List.length_cons]; omega) (by omega)
            exact e1.hold ⟨by decide, fun z => absurd z (by decide), fun _ => show S.1 4 < S.1 4 + 1 by omega, fun z => absurd z (by decide), fun z => absurd z (by decide), fun z => absurd z (by decide)⟩
          · split
            · have z7 : S.1 7 ≤ k := a7
              have e1 : LI (k + 1) (aSc (newSg (thS S) nj (fun _ => 0)) 7 (S.1 7 + 1)) := LI.mk (S := S) (a1.nG hn16 (show S.1 7 + 1 ≤ 590 by omega) (fun _ _ => rfl)) (show S.1 7 + 1 ≤ k + 1 by omega) (Nat.le_succ_of_le a10) (Nat.le_succ_of_le a13) (show S.1 4 ≤ 100 * (k + 1 - S.1 13) by have z1 : S.1 4 ≤ 100 * (k - S.1 13) := a4; omega) (by
                rw [show tmS (aSc (newSg (thS S) nj (fun _ => 0)) 7 (S.1 7 + 1)) ((aSc (newSg (thS S) nj (fun _ => 0)) 7 (S.1 7 + 1)).1 13) = tmS (thS S) ((thS S).1 13) from tmS_eq _ (fun _ _ => rfl)]
                show S.1 4 + S.1 13 ≤ k + 1 + _
                have z : S.1 4 + S.1 13 ≤ k + tmS (thS S) ((thS S).1 13) := at9
                omega) (hJ.eq rfl rfl rfl rfl rfl) (by omega) (by omega)
              exact e1.hold ⟨by decide, fun z => absurd z (by decide), fun z => absurd z (by decide), fun _ => show S.1 7 < S.1 7 + 1 by omega, fun z => absurd z (by decide), fun z => absurd z (by decide)⟩
            · have z10 : S.1 10 ≤ k := a10
              have e1 : LI (k + 1) (aSc (newRw (thS S) nj (fun _ => 0)) 10 (S.1 10 + 1)) := LI.mk (S := S) (a1.nW hn16 (show S.1 10 + 1 ≤ 590 by omega) (fun _ _ => Nat.zero_le _)) (Nat.le_succ_of_le a7) (show S.1 10 + 1 ≤ k + 1 by omega) (Nat.le_succ_of_le a13) (show S.1 4 ≤ 100 * (k + 1 - S.1 13) by have z1 : S.1 4 ≤ 100 * (k - S.1 13) := a4; omega) (by
                rw [show tmS (aSc (newRw (thS S) nj (fun _ => 0)) 10 (S.1 10 + 1)) ((aSc (newRw (thS S) nj (fun _ => 0)) 10 (S.1 10 + 1)).1 13) = tmS (thS S) ((thS S).1 13) from tmS_eq _ (fun _ _ => rfl)]
                show S.1 4 + S.1 13 ≤ k + 1 + _
                have z : S.1 4 + S.1 13 ≤ k + tmS (thS S) ((thS S).1 13) := at9
                omega) (hJ.eq rfl rfl rfl rfl rfl) (by omega) (by omega)
              exact e1.hold ⟨by decide, fun z => absurd z (by decide), fun z => absurd z (by decide), fun z => absurd z (by decide), fun _ => show S.1 10 < S.1 10 + 1 by omega, fun z => absurd z (by decide)⟩
      · exact h.st Qt.th
    · exact h.st Qt.th
  · exact h.st Qt.th
theorem l_table (h : LI k S) (hk : k ≤ 511) (p : Int32) (kb : Nat) (n : Int32) (hkb : kb < 2) : LI (k + 1) (s_table S p kb n).2 := by
  unfold s_table
  split
  · split
    · have h0 := h.qt (S' := thS S) Qt.th
      obtain ⟨a1, ⟨a7, a10, a13, a4, at9⟩, G, X, hJ, hG, hX⟩ := h0
      have z13 : S.1 13 ≤ k := a13
      have e1 : LI (k + 1) (newT (thS S) kb (szF (pl n))) := LI.mk (S := S) (a1.nT hkb (show S.1 13 + 1 ≤ 515 by omega)) (Nat.le_succ_of_le a7) (Nat.le_succ_of_le a10) (show S.1 13 + 1 ≤ k + 1 by omega) (show S.1 4 ≤ 100 * (k + 1 - (S.1 13 + 1)) by have z1 : S.1 4 ≤ 100 * (k - S.1 13) := a4; omega) (by
        have e16 : (newT (thS S) kb (szF (pl n))).2.1 16 (S.1 13) = 0 := va_up_self _ _ _
        have e : tmS (newT (thS S) kb (szF (pl n))) ((newT (thS S) kb (szF (pl n))).1 13) = tmS (thS S) (S.1 13) + 0 := by
          show tmS _ (S.1 13 + 1) = _
          rw [tmS, e16, tmS_eq (S := thS S) _ (fun t ht => va_up_ne _ _ (show t ≠ S.1 13 by omega))]
        rw [e]
        show S.1 4 + (S.1 13 + 1) ≤ k + 1 + (_ + 0)
        have z : S.1 4 + S.1 13 ≤ k + tmS (thS S) (S.1 13) := at9
        omega) (hJ.eq rfl rfl rfl rfl rfl) (by omega) (by omega)
      have e14 : (newT (thS S) kb (szF (pl n))).2.1 14 (S.1 13) = kb := va_up_self _ _ _
      refine e1.hold ⟨by split <;> omega, fun z => (by split at z <;> omega), fun z => (by split at z <;> omega), fun z => (by split at z <;> omega), fun z => (by split at z <;> omega), fun _ => ⟨show S.1 13 < S.1 13 + 1 by omega, ?_⟩⟩
      rw [e14]
      split <;> omega
    · exact h.st Qt.th
  · exact h.st Qt.th
end Steps9
