theorem xR.th0 {cy : Nat → ClassId} {S : aS} {b : xB} {L : List Nat} {f : Nat → va_E} (h : xR cy S b L f) : xR cy (thS S) b L f := h
theorem isTh.ne {L : List Nat} {f : Nat → va_E} {a k : Nat} (h : isTh L f (some a) k) : k ≠ 0 := by
  rcases h with ⟨h, _⟩ | ⟨_, _, _, _, _, h⟩
  · cases h
  · omega
theorem isTh.n0 {L : List Nat} {f : Nat → va_E} {k : Nat} (h : isTh L f none k) : k = 0 := by
  rcases h with ⟨_, h⟩ | ⟨_, _, _, h, _⟩
  · exact h
  · cases h
def lkF (k k2 : Nat) : Nat := if (k = 0 ∨ isK k 4) ∧ (k2 = 0 ∨ isK k2 1) then (if k = 0 ∨ k2 = 0 then 1 else 0) else 2
def tbFl (k : Nat) : Nat := if k = 0 ∨ isK k 4 then (if k = 0 then 1 else 0) else 2
theorem in_j {i : Int32} {n : Nat} (hn : n < 2 ^ 30) : (0 ≤ i ∧ i < nI n) ↔ ∃ j, j < n ∧ i = nI j := by
  constructor
  · rintro ⟨h1, h2⟩
    rw [Int32.le_iff_toInt_le, Int32.toInt_zero] at h1
    obtain ⟨j, h3, h4⟩ := nI_of (x := i) (by rw [Int32.lt_iff_toInt_lt, Int32.toInt_zero]; omega)
    rw [h4, Int32.lt_iff_toInt_lt, nI_toInt h3, nI_toInt (by omega)] at h2
    exact ⟨j, by omega, h4⟩
  · rintro ⟨j, h1, rfl⟩
    rw [Int32.le_iff_toInt_le, Int32.lt_iff_toInt_lt, Int32.toInt_zero, nI_toInt (by omega), nI_toInt (by omega)]
    omega
theorem in_R {i : Int32} {n : Nat} (hn : n < 2 ^ 30) : (0 ≤ i ∧ i < nI n) ↔ inR i n := (in_j hn).trans (inR_j hn).symm
section Y0
variable {l : Launch} {D : va_G} {cy adK adV : Nat → Nat} {L : List Nat} {f : Nat → va_E}
set_option maxRecDepth 20000 in
set_option maxHeartbeats 4000000 in
theorem x_failed {S : aS} {b : xB} (hx : xR cy S b L f) (M : Nat) (hM : b.1 9 0 = M) (n : Nat) : gCt l D vwCl (gKK D cy adK adV) yX9_failed wsX9_failed { frames := 0, cells := 0, slots := 0, locals := 0 } [.ref M, .int (nI n)] L f (xQ cy (fltS S n) b (some (.int (fA n)))) := by
  refine gCt.of gKK_ok (by decide) rfl rfl (fun X hC hR hnm => ?_)
  have hC : gC X l _ D vwCl (cyT cy) (gKK D cy adK adV) cX9_failed 2 wsX9_failed RX9 := hC
  show gW X vwCl 2 L f 0 0 0 [(0, .ref M), (1, .int (nI n))] []
  refine g_aload_n hC dX9_failed_0 rfl 0 rfl (Or.inr ⟨_, rfl⟩) ?_
  refine g_iload_n hC dX9_failed_1 rfl 1 rfl ?_
  refine g_put hC (by decide +kernel) tyX9 tyX9_ok nmX9 rfl (hx.M hM).1 (hx.M hM).2 3 (by decide) (by decide +kernel) (Or.inl rfl) rfl (tyX9_ok 3 (by decide)) rfl rfl (show 3 < 6 by decide) dX9_failed_2 ?_
  refine g_fx (P := xR cy ((aSc S 1 n)) b) (hx.u1 (n := n) hM) (fun f1 hx1 => ?_)
  show gW X vwCl 2 L f1 0 0 5 [(0, .ref M), (1, .int (nI n))] []
  refine g_bipush hC dX9_failed_5 (v := (-10)) (by decide) ?_
  refine g_iload_n hC dX9_failed_7 rfl 1 rfl ?_
  refine g_isub hC dX9_failed_8 ?_
  exact g_iret hC hR dX9_failed_9 ⟨rfl, hx1⟩
set_option maxRecDepth 20000 in
set_option maxHeartbeats 4000000 in
theorem x_failedLong {S : aS} {b : xB} (hx : xR cy S b L f) (M : Nat) (hM : b.1 9 0 = M) (n : Nat) : gCt l D vwCl (gKK D cy adK adV) yX9_failedLong wsX9_failedLong { frames := 0, cells := 0, slots := 0, locals := 0 } [.ref M, .int (nI n)] L f (xQ cy (fltS S n) b (some (.long noL))) := by
  refine gCt.of gKK_ok (by decide) rfl rfl (fun X hC hR hnm => ?_)
  have hC : gC X l _ D vwCl (cyT cy) (gKK D cy adK adV) cX9_failedLong 2 wsX9_failedLong RX9 := hC
  show gW X vwCl 2 L f 0 0 0 [(0, .ref M), (1, .int (nI n))] []
  refine g_aload_n hC dX9_failedLong_0 rfl 0 rfl (Or.inr ⟨_, rfl⟩) ?_
  refine g_iload_n hC dX9_failedLong_1 rfl 1 rfl ?_
  refine g_put hC (by decide +kernel) tyX9 tyX9_ok nmX9 rfl (hx.M hM).1 (hx.M hM).2 3 (by decide) (by decide +kernel) (Or.inl rfl) rfl (tyX9_ok 3 (by decide)) rfl rfl (show 3 < 6 by decide) dX9_failedLong_2 ?_
  refine g_fx (P := xR cy ((aSc S 1 n)) b) (hx.u1 (n := n) hM) (fun f1 hx1 => ?_)
  show gW X vwCl 2 L f1 0 0 5 [(0, .ref M), (1, .int (nI n))] []
  refine g_ldc2 (v := -9223372036854775808) hC (by decide +kernel) dX9_failedLong_5 ?_
  exact g_lret hC hR dX9_failedLong_8 ⟨rfl, hx1⟩
set_option maxRecDepth 20000 in
set_option maxHeartbeats 4000000 in
theorem x_counted_T {S : aS} {b : xB} (hx : xR cy S b L f) (M : Nat) (hM : b.1 9 0 = M) (t T : Nat) (ht : t < S.1 13) (hT : b.1 6 t = T) (hkb : S.2.1 14 t = 0) (v : Int32) (h17 : S.2.1 17 t < 2 ^ 31) : gCt l D vwCl (gKK D cy adK adV) yX9_counted wsX9_counted { frames := 0, cells := 0, slots := 0, locals := 0 } [.ref M, .ref T, .int v] L f (xQ cy (aSc (aSc S 23 (S.1 23 + S.2.1 17 t)) 24 (S.1 24 + 1)) b (some (.int v))) := by
  refine gCt.of gKK_ok (by decide) rfl rfl (fun X hC hR hnm => ?_)
  have hC : gC X l _ D vwCl (cyT cy) (gKK D cy adK adV) cX9_counted 3 wsX9_counted RX9 := hC
  show gW X vwCl 3 L f 0 0 0 [(0, .ref M), (1, .ref T), (2, .int v)] []
  refine g_aload_n hC dX9_counted_0 rfl 0 rfl (Or.inr ⟨_, rfl⟩) ?_
  refine g_dup hC dX9_counted_1 rfl ?_
  refine g_get hC (by decide +kernel) rfl (hx.M hM).1 (hx.M hM).2 4 (by decide) (by decide +kernel) (Or.inl rfl) rfl dX9_counted_2 ?_
  refine g_aload_n hC dX9_counted_5 rfl 1 rfl (Or.inr ⟨_, rfl⟩) ?_
  refine g_getN hC (by decide +kernel) rfl (hx.T ht hT hkb).1 (hx.T ht hT hkb).2 3 (by decide) (gKK_F ("KeptTerms", 246, "KeptTerms$Table", "latestProbes", "I") (by decide)) (Or.inl rfl) rfl dX9_counted_6 ?_
  refine g_i2l hC dX9_counted_9 (v := lN (S.2.1 17 t)) (nI_l (n := S.2.1 17 t) (by omega)) ?_
  refine g_laddN (a := S.1 23) (b := S.2.1 17 t) hC dX9_counted_10 ?_
  refine g_put hC (by decide +kernel) tyX9 tyX9_ok nmX9 rfl (hx.M hM).1 (hx.M hM).2 4 (by decide) (by decide +kernel) (Or.inl rfl) rfl (tyX9_ok 4 (by decide)) rfl rfl (show 4 < 6 by decide) dX9_counted_11 ?_
  refine g_fx (P := xR cy ((aSc S 23 ((S.1 23) + (S.2.1 17 t)))) b) (hx.u23 (n := (S.1 23) + (S.2.1 17 t)) hM) (fun f1 hx1 => ?_)
  show gW X vwCl 3 L f1 0 0 14 [(0, .ref M), (1, .ref T), (2, .int v)] []
  refine g_aload_n hC dX9_counted_14 rfl 0 rfl (Or.inr ⟨_, rfl⟩) ?_
  refine g_dup hC dX9_counted_15 rfl ?_
  refine g_get hC (by decide +kernel) rfl (hx1.M hM).1 (hx1.M hM).2 5 (by decide) (by decide +kernel) (Or.inl rfl) rfl dX9_counted_16 ?_
  refine g_lconst hC dX9_counted_19 (v := lN 1) (by decide) ?_
  refine g_laddN (a := S.1 24) (b := 1) hC dX9_counted_20 ?_
  refine g_put hC (by decide +kernel) tyX9 tyX9_ok nmX9 rfl (hx1.M hM).1 (hx1.M hM).2 5 (by decide) (by decide +kernel) (Or.inl rfl) rfl (tyX9_ok 5 (by decide)) rfl rfl (show 5 < 6 by decide) dX9_counted_21 ?_
  refine g_fx (P := xR cy ((aSc (aSc S 23 ((S.1 23) + (S.2.1 17 t))) 24 ((S.1 24) + 1))) b) (hx1.u24 (n := (S.1 24) + 1) hM) (fun f2 hx2 => ?_)
  show gW X vwCl 3 L f2 0 0 24 [(0, .ref M), (1, .ref T), (2, .int v)] []
  refine g_iload_n hC dX9_counted_24 rfl 2 rfl ?_
  exact g_iret hC hR dX9_counted_25 ⟨rfl, hx2⟩
set_option maxRecDepth 20000 in
set_option maxHeartbeats 4000000 in
theorem x_counted_K {S : aS} {b : xB} (hx : xR cy S b L f) (M : Nat) (hM : b.1 9 0 = M) (t T : Nat) (ht : t < S.1 13) (hT : b.1 6 t = T) (hkb : S.2.1 14 t ≠ 0) (v : Int32) (h17 : S.2.1 17 t < 2 ^ 31) : gCt l D vwCl (gKK D cy adK adV) yX9_counted wsX9_counted { frames := 0, cells := 0, slots := 0, locals := 0 } [.ref M, .ref T, .int v] L f (xQ cy (aSc (aSc S 23 (S.1 23 + S.2.1 17 t)) 24 (S.1 24 + 1)) b (some (.int v))) := by
  refine gCt.of gKK_ok (by decide) rfl rfl (fun X hC hR hnm => ?_)
  have hC : gC X l _ D vwCl (cyT cy) (gKK D cy adK adV) cX9_counted 3 wsX9_counted RX9 := hC
  show gW X vwCl 3 L f 0 0 0 [(0, .ref M), (1, .ref T), (2, .int v)] []
  refine g_aload_n hC dX9_counted_0 rfl 0 rfl (Or.inr ⟨_, rfl⟩) ?_
  refine g_dup hC dX9_counted_1 rfl ?_
  refine g_get hC (by decide +kernel) rfl (hx.M hM).1 (hx.M hM).2 4 (by decide) (by decide +kernel) (Or.inl rfl) rfl dX9_counted_2 ?_
  refine g_aload_n hC dX9_counted_5 rfl 1 rfl (Or.inr ⟨_, rfl⟩) ?_
  refine g_getN hC (by decide +kernel) rfl (hx.K ht hT hkb).1 (hx.K ht hT hkb).2 3 (by decide) (gKK_F ("KeptTerms", 246, "KeptTerms$Table", "latestProbes", "I") (by decide)) (Or.inl rfl) rfl dX9_counted_6 ?_
  refine g_i2l hC dX9_counted_9 (v := lN (S.2.1 17 t)) (nI_l (n := S.2.1 17 t) (by omega)) ?_
  refine g_laddN (a := S.1 23) (b := S.2.1 17 t) hC dX9_counted_10 ?_
  refine g_put hC (by decide +kernel) tyX9 tyX9_ok nmX9 rfl (hx.M hM).1 (hx.M hM).2 4 (by decide) (by decide +kernel) (Or.inl rfl) rfl (tyX9_ok 4 (by decide)) rfl rfl (show 4 < 6 by decide) dX9_counted_11 ?_
  refine g_fx (P := xR cy ((aSc S 23 ((S.1 23) + (S.2.1 17 t)))) b) (hx.u23 (n := (S.1 23) + (S.2.1 17 t)) hM) (fun f1 hx1 => ?_)
  show gW X vwCl 3 L f1 0 0 14 [(0, .ref M), (1, .ref T), (2, .int v)] []
  refine g_aload_n hC dX9_counted_14 rfl 0 rfl (Or.inr ⟨_, rfl⟩) ?_
  refine g_dup hC dX9_counted_15 rfl ?_
  refine g_get hC (by decide +kernel) rfl (hx1.M hM).1 (hx1.M hM).2 5 (by decide) (by decide +kernel) (Or.inl rfl) rfl dX9_counted_16 ?_
  refine g_lconst hC dX9_counted_19 (v := lN 1) (by decide) ?_
  refine g_laddN (a := S.1 24) (b := 1) hC dX9_counted_20 ?_
  refine g_put hC (by decide +kernel) tyX9 tyX9_ok nmX9 rfl (hx1.M hM).1 (hx1.M hM).2 5 (by decide) (by decide +kernel) (Or.inl rfl) rfl (tyX9_ok 5 (by decide)) rfl rfl (show 5 < 6 by decide) dX9_counted_21 ?_
  refine g_fx (P := xR cy ((aSc (aSc S 23 ((S.1 23) + (S.2.1 17 t))) 24 ((S.1 24) + 1))) b) (hx1.u24 (n := (S.1 24) + 1) hM) (fun f2 hx2 => ?_)
  show gW X vwCl 3 L f2 0 0 24 [(0, .ref M), (1, .ref T), (2, .int v)] []
  refine g_iload_n hC dX9_counted_24 rfl 2 rfl ?_
  exact g_iret hC hR dX9_counted_25 ⟨rfl, hx2⟩
set_option maxRecDepth 20000 in
set_option maxHeartbeats 4000000 in
theorem x_slotsFor (n : Nat) (hn : n ≤ 64) : gCt l D vwCl (gKK D cy adK adV) yX9_slotsFor wsX9_slotsFor { frames := 0, cells := 0, slots := 0, locals := 0 } [.int (nI n)] L f (pE (some (.int (nI (szF n)))) L f) := by
  refine gCt.of gKK_ok (by decide) rfl rfl (fun X hC hR hnm => ?_)
  have hC : gC X l _ D vwCl (cyT cy) (gKK D cy adK adV) cX9_slotsFor 2 wsX9_slotsFor RX9 := hC
  show gW X vwCl 2 L f 0 0 0 [(0, .int (nI n))] []
  have hs : szF n = if n ≤ 4 then 4 else if n ≤ 8 then 8 else if n ≤ 16 then 16 else if n ≤ 32 then 32 else 64 := rfl
  have hn9 := hn
  refine g_iconst hC dX9_slotsFor_0 (v := nI 4) (by decide) ?_
  refine g_istore_n (lv' := [(1, .int (nI 4)), (0, .int (nI n))]) hC dX9_slotsFor_1 rfl (by decide) rfl ?_
  refine g_iload_n hC dX9_slotsFor_2 rfl 0 rfl ?_
  refine g_iload_n hC dX9_slotsFor_3 rfl 1 rfl ?_
  refine g_icmpN_ge (a := 4) (b := n) (tgt := 20) hC dX9_slotsFor_4 (by decide) (by omega) (by omega) (fun h4 => ?_) (fun h4 => ?_)
  · refine g_iload_n hC dX9_slotsFor_20 rfl 0 rfl ?_
    exact g_iret hC hR dX9_slotsFor_21 ⟨congrArg (fun z => some (Value.int (nI z))) (by rw [hs]; (repeat' split) <;> omega), rfl, rfl⟩
  · refine g_iload_n hC dX9_slotsFor_7 rfl 0 rfl ?_
    refine g_bipush hC dX9_slotsFor_8 (v := nI 64) (by decide) ?_
    refine g_icmpN_ge (a := 4) (b := 64) (tgt := 20) hC dX9_slotsFor_10 (by decide) (by omega) (by omega) (fun h10 => ?_) (fun h10 => ?_)
    · exfalso; omega
    · refine g_iload_n hC dX9_slotsFor_13 rfl 0 rfl ?_
      refine g_iconst hC dX9_slotsFor_14 (v := nI 2) (by decide) ?_
      refine g_imulN (a := 4) (b := 2) hC dX9_slotsFor_15 ?_
      refine g_istore_n (lv' := [(1, .int (nI 8)), (0, .int (nI n))]) hC dX9_slotsFor_16 rfl (by decide) rfl ?_
      refine g_goto (tgt := 2) hC dX9_slotsFor_17 (by decide) ?_
      refine g_iload_n hC dX9_slotsFor_2 rfl 0 rfl ?_
      refine g_iload_n hC dX9_slotsFor_3 rfl 1 rfl ?_
      refine g_icmpN_ge (a := 8) (b := n) (tgt := 20) hC dX9_slotsFor_4 (by decide) (by omega) (by omega) (fun h4_1 => ?_) (fun h4_1 => ?_)
      · refine g_iload_n hC dX9_slotsFor_20 rfl 0 rfl ?_
        exact g_iret hC hR dX9_slotsFor_21 ⟨congrArg (fun z => some (Value.int (nI z))) (by rw [hs]; (repeat' split) <;> omega), rfl, rfl⟩
      · refine g_iload_n hC dX9_slotsFor_7 rfl 0 rfl ?_
        refine g_bipush hC dX9_slotsFor_8 (v := nI 64) (by decide) ?_
        refine g_icmpN_ge (a := 8) (b := 64) (tgt := 20) hC dX9_slotsFor_10 (by decide) (by omega) (by omega) (fun h10_1 => ?_) (fun h10_1 => ?_)
        · exfalso; omega
        · refine g_iload_n hC dX9_slotsFor_13 rfl 0 rfl ?_
          refine g_iconst hC dX9_slotsFor_14 (v := nI 2) (by decide) ?_
          refine g_imulN (a := 8) (b := 2) hC dX9_slotsFor_15 ?_
          refine g_istore_n (lv' := [(1, .int (nI 16)), (0, .int (nI n))]) hC dX9_slotsFor_16 rfl (by decide) rfl ?_
          refine g_goto (tgt := 2) hC dX9_slotsFor_17 (by decide) ?_
          refine g_iload_n hC dX9_slotsFor_2 rfl 0 rfl ?_
          refine g_iload_n hC dX9_slotsFor_3 rfl 1 rfl ?_
          refine g_icmpN_ge (a := 16) (b := n) (tgt := 20) hC dX9_slotsFor_4 (by decide) (by omega) (by omega) (fun h4_2 => ?_) (fun h4_2 => ?_)
          · refine g_iload_n hC dX9_slotsFor_20 rfl 0 rfl ?_
            exact g_iret hC hR dX9_slotsFor_21 ⟨congrArg (fun z => some (Value.int (nI z))) (by rw [hs]; (repeat' split) <;> omega), rfl, rfl⟩
          · refine g_iload_n hC dX9_slotsFor_7 rfl 0 rfl ?_
            refine g_bipush hC dX9_slotsFor_8 (v := nI 64) (by decide) ?_
            refine g_icmpN_ge (a := 16) (b := 64) (tgt := 20) hC dX9_slotsFor_10 (by decide) (by omega) (by omega) (fun h10_2 => ?_) (fun h10_2 => ?_)
            · exfalso; omega
            · refine g_iload_n hC dX9_slotsFor_13 rfl 0 rfl ?_
              refine g_iconst hC dX9_slotsFor_14 (v := nI 2) (by decide) ?_
              refine g_imulN (a := 16) (b := 2) hC dX9_slotsFor_15 ?_
              refine g_istore_n (lv' := [(1, .int (nI 32)), (0, .int (nI n))]) hC dX9_slotsFor_16 rfl (by decide) rfl ?_
              refine g_goto (tgt := 2) hC dX9_slotsFor_17 (by decide) ?_
              refine g_iload_n hC dX9_slotsFor_2 rfl 0 rfl ?_
              refine g_iload_n hC dX9_slotsFor_3 rfl 1 rfl ?_
              refine g_icmpN_ge (a := 32) (b := n) (tgt := 20) hC dX9_slotsFor_4 (by decide) (by omega) (by omega) (fun h4_3 => ?_) (fun h4_3 => ?_)
              · refine g_iload_n hC dX9_slotsFor_20 rfl 0 rfl ?_
                exact g_iret hC hR dX9_slotsFor_21 ⟨congrArg (fun z => some (Value.int (nI z))) (by rw [hs]; (repeat' split) <;> omega), rfl, rfl⟩
              · refine g_iload_n hC dX9_slotsFor_7 rfl 0 rfl ?_
                refine g_bipush hC dX9_slotsFor_8 (v := nI 64) (by decide) ?_
                refine g_icmpN_ge (a := 32) (b := 64) (tgt := 20) hC dX9_slotsFor_10 (by decide) (by omega) (by omega) (fun h10_3 => ?_) (fun h10_3 => ?_)
                · exfalso; omega
                · refine g_iload_n hC dX9_slotsFor_13 rfl 0 rfl ?_
                  refine g_iconst hC dX9_slotsFor_14 (v := nI 2) (by decide) ?_
                  refine g_imulN (a := 32) (b := 2) hC dX9_slotsFor_15 ?_
                  refine g_istore_n (lv' := [(1, .int (nI 64)), (0, .int (nI n))]) hC dX9_slotsFor_16 rfl (by decide) rfl ?_
                  refine g_goto (tgt := 2) hC dX9_slotsFor_17 (by decide) ?_
                  refine g_iload_n hC dX9_slotsFor_2 rfl 0 rfl ?_
                  refine g_iload_n hC dX9_slotsFor_3 rfl 1 rfl ?_
                  refine g_icmpN_ge (a := 64) (b := n) (tgt := 20) hC dX9_slotsFor_4 (by decide) (by omega) (by omega) (fun h4_4 => ?_) (fun h4_4 => ?_)
                  · refine g_iload_n hC dX9_slotsFor_20 rfl 0 rfl ?_
                    exact g_iret hC hR dX9_slotsFor_21 ⟨congrArg (fun z => some (Value.int (nI z))) (by rw [hs]; (repeat' split) <;> omega), rfl, rfl⟩
                  · refine g_iload_n hC dX9_slotsFor_7 rfl 0 rfl ?_
                    refine g_bipush hC dX9_slotsFor_8 (v := nI 64) (by decide) ?_
                    refine g_icmpN_ge (a := 64) (b := 64) (tgt := 20) hC dX9_slotsFor_10 (by decide) (by omega) (by omega) (fun h10_4 => ?_) (fun h10_4 => ?_)
                    · refine g_iload_n hC dX9_slotsFor_20 rfl 0 rfl ?_
                      exact g_iret hC hR dX9_slotsFor_21 ⟨congrArg (fun z => some (Value.int (nI z))) (by rw [hs]; (repeat' split) <;> omega), rfl, rfl⟩
                    · exfalso; omega
set_option maxRecDepth 20000 in
set_option maxHeartbeats 4000000 in
theorem x_tableFault (o : Option Nat) (k : Nat) (ht : isTh L f o k) : gCt l D vwCl (gKK D cy adK adV) yX9_tableFault wsX9_tableFault { frames := 4, cells := 0, slots := 0, locals := 83 } [va_rf o] L f (pE (some (.int (nI (tbFl k)))) L f) := by
  rcases o with _ | a
  · refine gCt.of gKK_ok (by decide) rfl rfl (fun X hC hR hnm => ?_)
    have hC : gC X l _ D vwCl (cyT cy) (gKK D cy adK adV) cX9_tableFault 1 wsX9_tableFault RX9 := hC
    show gW X vwCl 1 L f 0 0 0 [(0, .null)] []
    have hz := ht.n0
    refine g_aload_n hC dX9_tableFault_0 rfl 0 rfl (Or.inl rfl) ?_
    refine g_iconst hC dX9_tableFault_1 (v := nI 4) (by decide) ?_
    refine g_S (As := [.null, .int (nI 4)]) (st := []) hC 2 dX9_tableFault_2 gX9_tableFault_X9_mayBeCast rfl (by decide +kernel) ⟨Nat.le_of_ble_eq_true rfl, Nat.le_of_ble_eq_true rfl⟩ rfl (Nat.le_of_ble_eq_true rfl) ⟨Nat.le_of_ble_eq_true rfl, Nat.le_of_ble_eq_true rfl⟩ (c2 := 0) (s2 := 0) rfl rfl (x_mayBeCast none k ht 4 (by decide)) ?_
    refine g_ifB_ne (P := k = 0 ∨ isK k 4) (tgt := 10) hC dX9_tableFault_5 (by decide) (fun h5 => ?_) (fun h5 => ?_)
    · refine g_aload_n hC dX9_tableFault_10 rfl 0 rfl (Or.inl rfl) ?_
      refine g_ifnonnull (o := none) (tgt := 18) hC dX9_tableFault_11 (by decide) (fun a11 h11 => ?_) (fun h11 => ?_)
      · cases h11
      · refine g_iconst hC dX9_tableFault_14 (v := nI 1) (by decide) ?_
        refine g_goto (tgt := 19) hC dX9_tableFault_15 (by decide) ?_
        exact g_iret hC hR dX9_tableFault_19 ⟨congrArg (fun z => some (Value.int (nI z))) (show 1 = tbFl k by unfold tbFl; rw [if_pos h5]; rw [if_pos hz]), rfl, rfl⟩
    · refine g_iconst hC dX9_tableFault_8 (v := nI 2) (by decide) ?_
      exact g_iret hC hR dX9_tableFault_9 ⟨congrArg (fun z => some (Value.int (nI z))) (show 2 = tbFl k by unfold tbFl; rw [if_neg h5]), rfl, rfl⟩
  · refine gCt.of gKK_ok (by decide) rfl rfl (fun X hC hR hnm => ?_)
    have hC : gC X l _ D vwCl (cyT cy) (gKK D cy adK adV) cX9_tableFault 1 wsX9_tableFault RX9 := hC
    show gW X vwCl 1 L f 0 0 0 [(0, .ref a)] []
    have hz := ht.ne
    refine g_aload_n hC dX9_tableFault_0 rfl 0 rfl (Or.inr ⟨_, rfl⟩) ?_
    refine g_iconst hC dX9_tableFault_1 (v := nI 4) (by decide) ?_
    refine g_S (As := [.ref a, .int (nI 4)]) (st := []) hC 2 dX9_tableFault_2 gX9_tableFault_X9_mayBeCast rfl (by decide +kernel) ⟨Nat.le_of_ble_eq_true rfl, Nat.le_of_ble_eq_true rfl⟩ rfl (Nat.le_of_ble_eq_true rfl) ⟨Nat.le_of_ble_eq_true rfl, Nat.le_of_ble_eq_true rfl⟩ (c2 := 0) (s2 := 0) rfl rfl (x_mayBeCast (some a) k ht 4 (by decide)) ?_
    refine g_ifB_ne (P := k = 0 ∨ isK k 4) (tgt := 10) hC dX9_tableFault_5 (by decide) (fun h5 => ?_) (fun h5 => ?_)
    · refine g_aload_n hC dX9_tableFault_10 rfl 0 rfl (Or.inr ⟨_, rfl⟩) ?_
      refine g_ifnonnull (o := some a) (tgt := 18) hC dX9_tableFault_11 (by decide) (fun a11 h11 => ?_) (fun h11 => ?_)
      · refine g_iconst hC dX9_tableFault_18 (v := nI 0) (by decide) ?_
        exact g_iret hC hR dX9_tableFault_19 ⟨congrArg (fun z => some (Value.int (nI z))) (show 0 = tbFl k by unfold tbFl; rw [if_pos h5]; rw [if_neg hz]), rfl, rfl⟩
      · cases h11
    · refine g_iconst hC dX9_tableFault_8 (v := nI 2) (by decide) ?_
      exact g_iret hC hR dX9_tableFault_9 ⟨congrArg (fun z => some (Value.int (nI z))) (show 2 = tbFl k by unfold tbFl; rw [if_neg h5]), rfl, rfl⟩
set_option maxRecDepth 20000 in
set_option maxHeartbeats 4000000 in
theorem x_lookFault (o o2 : Option Nat) (k k2 : Nat) (ht : isTh L f o k) (ht2 : isTh L f o2 k2) : gCt l D vwCl (gKK D cy adK adV) yX9_lookFault wsX9_lookFault { frames := 4, cells := 0, slots := 0, locals := 83 } [va_rf o, va_rf o2] L f (pE (some (.int (nI (lkF k k2)))) L f) := by
  rcases o with _ | a <;> rcases o2 with _ | a2
  · refine gCt.of gKK_ok (by decide) rfl rfl (fun X hC hR hnm => ?_)
    have hC : gC X l _ D vwCl (cyT cy) (gKK D cy adK adV) cX9_lookFault 2 wsX9_lookFault RX9 := hC
    show gW X vwCl 2 L f 0 0 0 [(0, .null), (1, .null)] []
    have hz := ht.n0
    have hz2 := ht2.n0
    refine g_aload_n hC dX9_lookFault_0 rfl 0 rfl (Or.inl rfl) ?_
    refine g_iconst hC dX9_lookFault_1 (v := nI 4) (by decide) ?_
    refine g_S (As := [.null, .int (nI 4)]) (st := []) hC 2 dX9_lookFault_2 gX9_lookFault_X9_mayBeCast rfl (by decide +kernel) ⟨Nat.le_of_ble_eq_true rfl, Nat.le_of_ble_eq_true rfl⟩ rfl (Nat.le_of_ble_eq_true rfl) ⟨Nat.le_of_ble_eq_true rfl, Nat.le_of_ble_eq_true rfl⟩ (c2 := 0) (s2 := 0) rfl rfl (x_mayBeCast none k ht 4 (by decide)) ?_
    refine g_ifB_eq (P := k = 0 ∨ isK k 4) (tgt := 16) hC dX9_lookFault_5 (by decide) (fun h5 => ?_) (fun h5 => ?_)
    · refine g_iconst hC dX9_lookFault_16 (v := nI 2) (by decide) ?_
      exact g_iret hC hR dX9_lookFault_17 ⟨congrArg (fun z => some (Value.int (nI z))) (show 2 = lkF k k2 by unfold lkF; rw [if_neg (fun q => h5 q.1)]), rfl, rfl⟩
    · refine g_aload_n hC dX9_lookFault_8 rfl 1 rfl (Or.inl rfl) ?_
      refine g_iconst hC dX9_lookFault_9 (v := nI 1) (by decide) ?_
      refine g_S (As := [.null, .int (nI 1)]) (st := []) hC 2 dX9_lookFault_10 gX9_lookFault_X9_mayBeCast rfl (by decide +kernel) ⟨Nat.le_of_ble_eq_true rfl, Nat.le_of_ble_eq_true rfl⟩ rfl (Nat.le_of_ble_eq_true rfl) ⟨Nat.le_of_ble_eq_true rfl, Nat.le_of_ble_eq_true rfl⟩ (c2 := 0) (s2 := 0) rfl rfl (x_mayBeCast none k2 ht2 1 (by decide)) ?_
      refine g_ifB_ne (P := k2 = 0 ∨ isK k2 1) (tgt := 18) hC dX9_lookFault_13 (by decide) (fun h13 => ?_) (fun h13 => ?_)
      · refine g_aload_n hC dX9_lookFault_18 rfl 0 rfl (Or.inl rfl) ?_
        refine g_ifnull (o := none) (tgt := 26) hC dX9_lookFault_19 (by decide) (fun h19 => ?_) (fun a19 h19 => ?_)
        · refine g_iconst hC dX9_lookFault_26 (v := nI 1) (by decide) ?_
          refine g_goto (tgt := 31) hC dX9_lookFault_27 (by decide) ?_
          exact g_iret hC hR dX9_lookFault_31 ⟨congrArg (fun z => some (Value.int (nI z))) (show 1 = lkF k k2 by unfold lkF; rw [if_pos ⟨h5, h13⟩, if_pos (by omega)]), rfl, rfl⟩
        · cases h19
      · refine g_iconst hC dX9_lookFault_16 (v := nI 2) (by decide) ?_
        exact g_iret hC hR dX9_lookFault_17 ⟨congrArg (fun z => some (Value.int (nI z))) (show 2 = lkF k k2 by unfold lkF; rw [if_neg (fun q => h13 q.2)]), rfl, rfl⟩
  · refine gCt.of gKK_ok (by decide) rfl rfl (fun X hC hR hnm => ?_)
    have hC : gC X l _ D vwCl (cyT cy) (gKK D cy adK adV) cX9_lookFault 2 wsX9_lookFault RX9 := hC
    show gW X vwCl 2 L f 0 0 0 [(0, .null), (1, .ref a2)] []
    have hz := ht.n0
    have hz2 := ht2.ne
    refine g_aload_n hC dX9_lookFault_0 rfl 0 rfl (Or.inl rfl) ?_
    refine g_iconst hC dX9_lookFault_1 (v := nI 4) (by decide) ?_
    refine g_S (As := [.null, .int (nI 4)]) (st := []) hC 2 dX9_lookFault_2 gX9_lookFault_X9_mayBeCast rfl (by decide +kernel) ⟨Nat.le_of_ble_eq_true rfl, Nat.le_of_ble_eq_true rfl⟩ rfl (Nat.le_of_ble_eq_true rfl) ⟨Nat.le_of_ble_eq_true rfl, Nat.le_of_ble_eq_true rfl⟩ (c2 := 0) (s2 := 0) rfl rfl (x_mayBeCast none k ht 4 (by decide)) ?_
    refine g_ifB_eq (P := k = 0 ∨ isK k 4) (tgt := 16) hC dX9_lookFault_5 (by decide) (fun h5 => ?_) (fun h5 => ?_)
    · refine g_iconst hC dX9_lookFault_16 (v := nI 2) (by decide) ?_
      exact g_iret hC hR dX9_lookFault_17 ⟨congrArg (fun z => some (Value.int (nI z))) (show 2 = lkF k k2 by unfold lkF; rw [if_neg (fun q => h5 q.1)]), rfl, rfl⟩
    · refine g_aload_n hC dX9_lookFault_8 rfl 1 rfl (Or.inr ⟨_, rfl⟩) ?_
      refine g_iconst hC dX9_lookFault_9 (v := nI 1) (by decide) ?_
      refine g_S (As := [.ref a2, .int (nI 1)]) (st := []) hC 2 dX9_lookFault_10 gX9_lookFault_X9_mayBeCast rfl (by decide +kernel) ⟨Nat.le_of_ble_eq_true rfl, Nat.le_of_ble_eq_true rfl⟩ rfl (Nat.le_of_ble_eq_true rfl) ⟨Nat.le_of_ble_eq_true rfl, Nat.le_of_ble_eq_true rfl⟩ (c2 := 0) (s2 := 0) rfl rfl (x_mayBeCast (some a2) k2 ht2 1 (by decide)) ?_
      refine g_ifB_ne (P := k2 = 0 ∨ isK k2 1) (tgt := 18) hC dX9_lookFault_13 (by decide) (fun h13 => ?_) (fun h13 => ?_)
      · refine g_aload_n hC dX9_lookFault_18 rfl 0 rfl (Or.inl rfl) ?_
        refine g_ifnull (o := none) (tgt := 26) hC dX9_lookFault_19 (by decide) (fun h19 => ?_) (fun a19 h19 => ?_)
        · refine g_iconst hC dX9_lookFault_26 (v := nI 1) (by decide) ?_
          refine g_goto (tgt := 31) hC dX9_lookFault_27 (by decide) ?_
          exact g_iret hC hR dX9_lookFault_31 ⟨congrArg (fun z => some (Value.int (nI z))) (show 1 = lkF k k2 by unfold lkF; rw [if_pos ⟨h5, h13⟩, if_pos (by omega)]), rfl, rfl⟩
        · cases h19
      · refine g_iconst hC dX9_lookFault_16 (v := nI 2) (by decide) ?_
        exact g_iret hC hR dX9_lookFault_17 ⟨congrArg (fun z => some (Value.int (nI z))) (show 2 = lkF k k2 by unfold lkF; rw [if_neg (fun q => h13 q.2)]), rfl, rfl⟩
  · refine gCt.of gKK_ok (by decide) rfl rfl (fun X hC hR hnm => ?_)
    have hC : gC X l _ D vwCl (cyT cy) (gKK D cy adK adV) cX9_lookFault 2 wsX9_lookFault RX9 := hC
    show gW X vwCl 2 L f 0 0 0 [(0, .ref a), (1, .null)] []
    have hz := ht.ne
    have hz2 := ht2.n0
    refine g_aload_n hC dX9_lookFault_0 rfl 0 rfl (Or.inr ⟨_, rfl⟩) ?_
    refine g_iconst hC dX9_lookFault_1 (v := nI 4) (by decide) ?_
    refine g_S (As := [.ref a, .int (nI 4)]) (st := []) hC 2 dX9_lookFault_2 gX9_lookFault_X9_mayBeCast rfl (by decide +kernel) ⟨Nat.le_of_ble_eq_true rfl, Nat.le_of_ble_eq_true rfl⟩ rfl (Nat.le_of_ble_eq_true rfl) ⟨Nat.le_of_ble_eq_true rfl, Nat.le_of_ble_eq_true rfl⟩ (c2 := 0) (s2 := 0) rfl rfl (x_mayBeCast (some a) k ht 4 (by decide)) ?_
    refine g_ifB_eq (P := k = 0 ∨ isK k 4) (tgt := 16) hC dX9_lookFault_5 (by decide) (fun h5 => ?_) (fun h5 => ?_)
    · refine g_iconst hC dX9_lookFault_16 (v := nI 2) (by decide) ?_
      exact g_iret hC hR dX9_lookFault_17 ⟨congrArg (fun z => some (Value.int (nI z))) (show 2 = lkF k k2 by unfold lkF; rw [if_neg (fun q => h5 q.1)]), rfl, rfl⟩
    · refine g_aload_n hC dX9_lookFault_8 rfl 1 rfl (Or.inl rfl) ?_
      refine g_iconst hC dX9_lookFault_9 (v := nI 1) (by decide) ?_
      refine g_S (As := [.null, .int (nI 1)]) (st := []) hC 2 dX9_lookFault_10 gX9_lookFault_X9_mayBeCast rfl (by decide +kernel) ⟨Nat.le_of_ble_eq_true rfl, Nat.le_of_ble_eq_true rfl⟩ rfl (Nat.le_of_ble_eq_true rfl) ⟨Nat.le_of_ble_eq_true rfl, Nat.le_of_ble_eq_true rfl⟩ (c2 := 0) (s2 := 0) rfl rfl (x_mayBeCast none k2 ht2 1 (by decide)) ?_
      refine g_ifB_ne (P := k2 = 0 ∨ isK k2 1) (tgt := 18) hC dX9_lookFault_13 (by decide) (fun h13 => ?_) (fun h13 => ?_)
      · refine g_aload_n hC dX9_lookFault_18 rfl 0 rfl (Or.inr ⟨_, rfl⟩) ?_
        refine g_ifnull (o := some a) (tgt := 26) hC dX9_lookFault_19 (by decide) (fun h19 => ?_) (fun a19 h19 => ?_)
        · cases h19
        · refine g_aload_n hC dX9_lookFault_22 rfl 1 rfl (Or.inl rfl) ?_
          refine g_ifnonnull (o := none) (tgt := 30) hC dX9_lookFault_23 (by decide) (fun a23 h23 => ?_) (fun h23 => ?_)
          · cases h23
          · refine g_iconst hC dX9_lookFault_26 (v := nI 1) (by decide) ?_
            refine g_goto (tgt := 31) hC dX9_lookFault_27 (by decide) ?_
            exact g_iret hC hR dX9_lookFault_31 ⟨congrArg (fun z => some (Value.int (nI z))) (show 1 = lkF k k2 by unfold lkF; rw [if_pos ⟨h5, h13⟩, if_pos (by omega)]), rfl, rfl⟩
      · refine g_iconst hC dX9_lookFault_16 (v := nI 2) (by decide) ?_
        exact g_iret hC hR dX9_lookFault_17 ⟨congrArg (fun z => some (Value.int (nI z))) (show 2 = lkF k k2 by unfold lkF; rw [if_neg (fun q => h13 q.2)]), rfl, rfl⟩
  · refine gCt.of gKK_ok (by decide) rfl rfl (fun X hC hR hnm => ?_)
    have hC : gC X l _ D vwCl (cyT cy) (gKK D cy adK adV) cX9_lookFault 2 wsX9_lookFault RX9 := hC
    show gW X vwCl 2 L f 0 0 0 [(0, .ref a), (1, .ref a2)] []
    have hz := ht.ne
    have hz2 := ht2.ne
    refine g_aload_n hC dX9_lookFault_0 rfl 0 rfl (Or.inr ⟨_, rfl⟩) ?_
    refine g_iconst hC dX9_lookFault_1 (v := nI 4) (by decide) ?_
    refine g_S (As := [.ref a, .int (nI 4)]) (st := []) hC 2 dX9_lookFault_2 gX9_lookFault_X9_mayBeCast rfl (by decide +kernel) ⟨Nat.le_of_ble_eq_true rfl, Nat.le_of_ble_eq_true rfl⟩ rfl (Nat.le_of_ble_eq_true rfl) ⟨Nat.le_of_ble_eq_true rfl, Nat.le_of_ble_eq_true rfl⟩ (c2 := 0) (s2 := 0) rfl rfl (x_mayBeCast (some a) k ht 4 (by decide)) ?_
    refine g_ifB_eq (P := k = 0 ∨ isK k 4) (tgt := 16) hC dX9_lookFault_5 (by decide) (fun h5 => ?_) (fun h5 => ?_)
    · refine g_iconst hC dX9_lookFault_16 (v := nI 2) (by decide) ?_
      exact g_iret hC hR dX9_lookFault_17 ⟨congrArg (fun z => some (Value.int (nI z))) (show 2 = lkF k k2 by unfold lkF; rw [if_neg (fun q => h5 q.1)]), rfl, rfl⟩
    · refine g_aload_n hC dX9_lookFault_8 rfl 1 rfl (Or.inr ⟨_, rfl⟩) ?_
      refine g_iconst hC dX9_lookFault_9 (v := nI 1) (by decide) ?_
      refine g_S (As := [.ref a2, .int (nI 1)]) (st := []) hC 2 dX9_lookFault_10 gX9_lookFault_X9_mayBeCast rfl (by decide +kernel) ⟨Nat.le_of_ble_eq_true rfl, Nat.le_of_ble_eq_true rfl⟩ rfl (Nat.le_of_ble_eq_true rfl) ⟨Nat.le_of_ble_eq_true rfl, Nat.le_of_ble_eq_true rfl⟩ (c2 := 0) (s2 := 0) rfl rfl (x_mayBeCast (some a2) k2 ht2 1 (by decide)) ?_
      refine g_ifB_ne (P := k2 = 0 ∨ isK k2 1) (tgt := 18) hC dX9_lookFault_13 (by decide) (fun h13 => ?_) (fun h13 => ?_)
      · refine g_aload_n hC dX9_lookFault_18 rfl 0 rfl (Or.inr ⟨_, rfl⟩) ?_
        refine g_ifnull (o := some a) (tgt := 26) hC dX9_lookFault_19 (by decide) (fun h19 => ?_) (fun a19 h19 => ?_)
        · cases h19
        · refine g_aload_n hC dX9_lookFault_22 rfl 1 rfl (Or.inr ⟨_, rfl⟩) ?_
          refine g_ifnonnull (o := some a2) (tgt := 30) hC dX9_lookFault_23 (by decide) (fun a23 h23 => ?_) (fun h23 => ?_)
          · refine g_iconst hC dX9_lookFault_30 (v := nI 0) (by decide) ?_
            exact g_iret hC hR dX9_lookFault_31 ⟨congrArg (fun z => some (Value.int (nI z))) (show 0 = lkF k k2 by unfold lkF; rw [if_pos ⟨h5, h13⟩, if_neg (by omega)]), rfl, rfl⟩
          · cases h23
      · refine g_iconst hC dX9_lookFault_16 (v := nI 2) (by decide) ?_
        exact g_iret hC hR dX9_lookFault_17 ⟨congrArg (fun z => some (Value.int (nI z))) (show 2 = lkF k k2 by unfold lkF; rw [if_neg (fun q => h13 q.2)]), rfl, rfl⟩
set_option maxRecDepth 20000 in
set_option maxHeartbeats 4000000 in
theorem x_cellFault_B (a c n : Nat) (g : Nat → Int32) (ha : isB cy L f a c n g) (t : Nat) (ht5 : t ≤ 5) (i : Int32) : gCt l D vwCl (gKK D cy adK adV) yX9_cellFault wsX9_cellFault { frames := 4, cells := 0, slots := 0, locals := 83 } [.ref a, .int (nI t), .int i] L f (pE (some (.int (if 1 = 0 ∨ isK 1 t then (if 0 ≤ i ∧ i < nI n then nI 0 else nI 3) else nI 2))) L f) := by
  refine gCt.of gKK_ok (by decide) rfl rfl (fun X hC hR hnm => ?_)
  have hC : gC X l _ D vwCl (cyT cy) (gKK D cy adK adV) cX9_cellFault 4 wsX9_cellFault RX9 := hC
  show gW X vwCl 4 L f 0 0 0 [(0, .ref a), (1, .int (nI t)), (2, .int i)] []
  have hth : isTh L f (some a) 1 := Or.inr ⟨a, 0, _, rfl, ha.1, Or.inl ⟨rfl, rfl⟩⟩
  refine g_aload_n hC dX9_cellFault_0 rfl 0 rfl (Or.inr ⟨_, rfl⟩) ?_
  refine g_iload_n hC dX9_cellFault_1 rfl 1 rfl ?_
  refine g_S (As := [.ref a, .int (nI t)]) (st := []) hC 2 dX9_cellFault_2 gX9_cellFault_X9_mayBeCast rfl (by decide +kernel) ⟨Nat.le_of_ble_eq_true rfl, Nat.le_of_ble_eq_true rfl⟩ rfl (Nat.le_of_ble_eq_true rfl) ⟨Nat.le_of_ble_eq_true rfl, Nat.le_of_ble_eq_true rfl⟩ (c2 := 0) (s2 := 0) rfl rfl (x_mayBeCast (some a) 1 hth t ht5) ?_
  refine g_ifB_ne (P := 1 = 0 ∨ isK 1 t) (tgt := 10) hC dX9_cellFault_5 (by decide) (fun h5 => ?_) (fun h5 => ?_)
  · refine g_aload_n hC dX9_cellFault_10 rfl 0 rfl (Or.inr ⟨_, rfl⟩) ?_
    refine g_S (As := [.ref a]) (st := []) hC 1 dX9_cellFault_11 gX9_cellFault_X9_asRow rfl (by decide +kernel) ⟨Nat.le_of_ble_eq_true rfl, Nat.le_of_ble_eq_true rfl⟩ rfl (Nat.le_of_ble_eq_true rfl) ⟨Nat.le_of_ble_eq_true rfl, Nat.le_of_ble_eq_true rfl⟩ (c2 := 0) (s2 := 0) rfl rfl (x_asRow (some a) 1 hth) ?_
    refine g_astore_n (lv' := [(3, .ref a), (0, .ref a), (1, .int (nI t)), (2, .int i)]) hC dX9_cellFault_14 rfl (by decide) rfl (Or.inr ⟨_, rfl⟩) ?_
    refine g_aload_n hC dX9_cellFault_15 rfl 0 rfl (Or.inr ⟨_, rfl⟩) ?_
    refine g_ifnonnull (o := some a) (tgt := 21) hC dX9_cellFault_16 (by decide) (fun a16 h16 => ?_) (fun h16 => ?_)
    · refine g_aload_n hC dX9_cellFault_21 rfl 0 rfl (Or.inr ⟨_, rfl⟩) ?_
      refine g_iload_n hC dX9_cellFault_22 rfl 3 rfl ?_
      refine g_U (As := [.int i]) (st := []) hC 1 dX9_cellFault_23 rfl ha.1.1 ha.1.2 gX9_cellFault_X4_hasCell_u210X0 rfl rfl (by decide +kernel) ⟨Nat.le_of_ble_eq_true rfl, Nat.le_of_ble_eq_true rfl⟩ rfl (Nat.le_of_ble_eq_true rfl) ⟨Nat.le_of_ble_eq_true rfl, Nat.le_of_ble_eq_true rfl⟩ (c2 := 0) (s2 := 0) rfl rfl (x_4_hasCell_B a c n g ha i) ?_
      refine g_ifB_eq (P := 0 ≤ i ∧ i < nI n) (tgt := 33) hC dX9_cellFault_26 (by decide) (fun h26 => ?_) (fun h26 => ?_)
      · refine g_iconst hC dX9_cellFault_33 (v := nI 3) (by decide) ?_
        exact g_iret hC hR dX9_cellFault_34 ⟨congrArg (fun z => some (Value.int z)) ((if_pos h5).trans (if_neg h26)).symm, rfl, rfl⟩
      · refine g_iconst hC dX9_cellFault_29 (v := nI 0) (by decide) ?_
        refine g_goto (tgt := 34) hC dX9_cellFault_30 (by decide) ?_
        exact g_iret hC hR dX9_cellFault_34 ⟨congrArg (fun z => some (Value.int z)) ((if_pos h5).trans (if_pos h26)).symm, rfl, rfl⟩
    · cases h16
  · refine g_iconst hC dX9_cellFault_8 (v := nI 2) (by decide) ?_
    exact g_iret hC hR dX9_cellFault_9 ⟨congrArg (fun z => some (Value.int z)) (if_neg h5).symm, rfl, rfl⟩
set_option maxRecDepth 20000 in
set_option maxHeartbeats 4000000 in
theorem x_cellFault_S (a c n : Nat) (g : Nat → Int32) (ha : isS cy L f a c n g) (t : Nat) (ht5 : t ≤ 5) (i : Int32) : gCt l D vwCl (gKK D cy adK adV) yX9_cellFault wsX9_cellFault { frames := 4, cells := 0, slots := 0, locals := 83 } [.ref a, .int (nI t), .int i] L f (pE (some (.int (if 2 = 0 ∨ isK 2 t then (if 0 ≤ i ∧ i < nI n then nI 0 else nI 3) else nI 2))) L f) := by
  refine gCt.of gKK_ok (by decide) rfl rfl (fun X hC hR hnm => ?_)
  have hC : gC X l _ D vwCl (cyT cy) (gKK D cy adK adV) cX9_cellFault 4 wsX9_cellFault RX9 := hC
  show gW X vwCl 4 L f 0 0 0 [(0, .ref a), (1, .int (nI t)), (2, .int i)] []
  have hth : isTh L f (some a) 2 := Or.inr ⟨a, 4, _, rfl, ha.1, Or.inr (Or.inl ⟨rfl, rfl⟩)⟩
  refine g_aload_n hC dX9_cellFault_0 rfl 0 rfl (Or.inr ⟨_, rfl⟩) ?_
  refine g_iload_n hC dX9_cellFault_1 rfl 1 rfl ?_
  refine g_S (As := [.ref a, .int (nI t)]) (st := []) hC 2 dX9_cellFault_2 gX9_cellFault_X9_mayBeCast rfl (by decide +kernel) ⟨Nat.le_of_ble_eq_true rfl, Nat.le_of_ble_eq_true rfl⟩ rfl (Nat.le_of_ble_eq_true rfl) ⟨Nat.le_of_ble_eq_true rfl, Nat.le_of_ble_eq_true rfl⟩ (c2 := 0) (s2 := 0) rfl rfl (x_mayBeCast (some a) 2 hth t ht5) ?_
  refine g_ifB_ne (P := 2 = 0 ∨ isK 2 t) (tgt := 10) hC dX9_cellFault_5 (by decide) (fun h5 => ?_) (fun h5 => ?_)
  · refine g_aload_n hC dX9_cellFault_10 rfl 0 rfl (Or.inr ⟨_, rfl⟩) ?_
    refine g_S (As := [.ref a]) (st := []) hC 1 dX9_cellFault_11 gX9_cellFault_X9_asRow rfl (by decide +kernel) ⟨Nat.le_of_ble_eq_true rfl, Nat.le_of_ble_eq_true rfl⟩ rfl (Nat.le_of_ble_eq_true rfl) ⟨Nat.le_of_ble_eq_true rfl, Nat.le_of_ble_eq_true rfl⟩ (c2 := 0) (s2 := 0) rfl rfl (x_asRow (some a) 2 hth) ?_
    refine g_astore_n (lv' := [(3, .ref a), (0, .ref a), (1, .int (nI t)), (2, .int i)]) hC dX9_cellFault_14 rfl (by decide) rfl (Or.inr ⟨_, rfl⟩) ?_
    refine g_aload_n hC dX9_cellFault_15 rfl 0 rfl (Or.inr ⟨_, rfl⟩) ?_
    refine g_ifnonnull (o := some a) (tgt := 21) hC dX9_cellFault_16 (by decide) (fun a16 h16 => ?_) (fun h16 => ?_)
    · refine g_aload_n hC dX9_cellFault_21 rfl 0 rfl (Or.inr ⟨_, rfl⟩) ?_
      refine g_iload_n hC dX9_cellFault_22 rfl 3 rfl ?_
      refine g_U (As := [.int i]) (st := []) hC 1 dX9_cellFault_23 rfl ha.1.1 ha.1.2 gX9_cellFault_X4_hasCell_u210X6 rfl rfl (by decide +kernel) ⟨Nat.le_of_ble_eq_true rfl, Nat.le_of_ble_eq_true rfl⟩ rfl (Nat.le_of_ble_eq_true rfl) ⟨Nat.le_of_ble_eq_true rfl, Nat.le_of_ble_eq_true rfl⟩ (c2 := 0) (s2 := 0) rfl rfl (x_4_hasCell_S a c n g ha i) ?_
      refine g_ifB_eq (P := 0 ≤ i ∧ i < nI n) (tgt := 33) hC dX9_cellFault_26 (by decide) (fun h26 => ?_) (fun h26 => ?_)
      · refine g_iconst hC dX9_cellFault_33 (v := nI 3) (by decide) ?_
        exact g_iret hC hR dX9_cellFault_34 ⟨congrArg (fun z => some (Value.int z)) ((if_pos h5).trans (if_neg h26)).symm, rfl, rfl⟩
      · refine g_iconst hC dX9_cellFault_29 (v := nI 0) (by decide) ?_
        refine g_goto (tgt := 34) hC dX9_cellFault_30 (by decide) ?_
        exact g_iret hC hR dX9_cellFault_34 ⟨congrArg (fun z => some (Value.int z)) ((if_pos h5).trans (if_pos h26)).symm, rfl, rfl⟩
    · cases h16
  · refine g_iconst hC dX9_cellFault_8 (v := nI 2) (by decide) ?_
    exact g_iret hC hR dX9_cellFault_9 ⟨congrArg (fun z => some (Value.int z)) (if_neg h5).symm, rfl, rfl⟩
set_option maxRecDepth 20000 in
set_option maxHeartbeats 4000000 in
theorem x_cellFault_R (a c n : Nat) (g : Nat → Option Nat) (ha : isR cy L f a c n g) (t : Nat) (ht5 : t ≤ 5) (i : Int32) : gCt l D vwCl (gKK D cy adK adV) yX9_cellFault wsX9_cellFault { frames := 4, cells := 0, slots := 0, locals := 83 } [.ref a, .int (nI t), .int i] L f (pE (some (.int (if 3 = 0 ∨ isK 3 t then (if 0 ≤ i ∧ i < nI n then nI 0 else nI 3) else nI 2))) L f) := by
  refine gCt.of gKK_ok (by decide) rfl rfl (fun X hC hR hnm => ?_)
  have hC : gC X l _ D vwCl (cyT cy) (gKK D cy adK adV) cX9_cellFault 4 wsX9_cellFault RX9 := hC
  show gW X vwCl 4 L f 0 0 0 [(0, .ref a), (1, .int (nI t)), (2, .int i)] []
  have hth : isTh L f (some a) 3 := Or.inr ⟨a, 3, _, rfl, ha.1, Or.inr (Or.inr (Or.inl ⟨rfl, rfl⟩))⟩
  refine g_aload_n hC dX9_cellFault_0 rfl 0 rfl (Or.inr ⟨_, rfl⟩) ?_
  refine g_iload_n hC dX9_cellFault_1 rfl 1 rfl ?_
  refine g_S (As := [.ref a, .int (nI t)]) (st := []) hC 2 dX9_cellFault_2 gX9_cellFault_X9_mayBeCast rfl (by decide +kernel) ⟨Nat.le_of_ble_eq_true rfl, Nat.le_of_ble_eq_true rfl⟩ rfl (Nat.le_of_ble_eq_true rfl) ⟨Nat.le_of_ble_eq_true rfl, Nat.le_of_ble_eq_true rfl⟩ (c2 := 0) (s2 := 0) rfl rfl (x_mayBeCast (some a) 3 hth t ht5) ?_
  refine g_ifB_ne (P := 3 = 0 ∨ isK 3 t) (tgt := 10) hC dX9_cellFault_5 (by decide) (fun h5 => ?_) (fun h5 => ?_)
  · refine g_aload_n hC dX9_cellFault_10 rfl 0 rfl (Or.inr ⟨_, rfl⟩) ?_
    refine g_S (As := [.ref a]) (st := []) hC 1 dX9_cellFault_11 gX9_cellFault_X9_asRow rfl (by decide +kernel) ⟨Nat.le_of_ble_eq_true rfl, Nat.le_of_ble_eq_true rfl⟩ rfl (Nat.le_of_ble_eq_true rfl) ⟨Nat.le_of_ble_eq_true rfl, Nat.le_of_ble_eq_true rfl⟩ (c2 := 0) (s2 := 0) rfl rfl (x_asRow (some a) 3 hth) ?_
    refine g_astore_n (lv' := [(3, .ref a), (0, .ref a), (1, .int (nI t)), (2, .int i)]) hC dX9_cellFault_14 rfl (by decide) rfl (Or.inr ⟨_, rfl⟩) ?_
    refine g_aload_n hC dX9_cellFault_15 rfl 0 rfl (Or.inr ⟨_, rfl⟩) ?_
    refine g_ifnonnull (o := some a) (tgt := 21) hC dX9_cellFault_16 (by decide) (fun a16 h16 => ?_) (fun h16 => ?_)
    · refine g_aload_n hC dX9_cellFault_21 rfl 0 rfl (Or.inr ⟨_, rfl⟩) ?_
      refine g_iload_n hC dX9_cellFault_22 rfl 3 rfl ?_
      refine g_U (As := [.int i]) (st := []) hC 1 dX9_cellFault_23 rfl ha.1.1 ha.1.2 gX9_cellFault_X4_hasCell_u210X5 rfl rfl (by decide +kernel) ⟨Nat.le_of_ble_eq_true rfl, Nat.le_of_ble_eq_true rfl⟩ rfl (Nat.le_of_ble_eq_true rfl) ⟨Nat.le_of_ble_eq_true rfl, Nat.le_of_ble_eq_true rfl⟩ (c2 := 0) (s2 := 0) rfl rfl (x_4_hasCell_R a c n g ha i) ?_
      refine g_ifB_eq (P := 0 ≤ i ∧ i < nI n) (tgt := 33) hC dX9_cellFault_26 (by decide) (fun h26 => ?_) (fun h26 => ?_)
      · refine g_iconst hC dX9_cellFault_33 (v := nI 3) (by decide) ?_
        exact g_iret hC hR dX9_cellFault_34 ⟨congrArg (fun z => some (Value.int z)) ((if_pos h5).trans (if_neg h26)).symm, rfl, rfl⟩
      · refine g_iconst hC dX9_cellFault_29 (v := nI 0) (by decide) ?_
        refine g_goto (tgt := 34) hC dX9_cellFault_30 (by decide) ?_
        exact g_iret hC hR dX9_cellFault_34 ⟨congrArg (fun z => some (Value.int z)) ((if_pos h5).trans (if_pos h26)).symm, rfl, rfl⟩
    · cases h16
  · refine g_iconst hC dX9_cellFault_8 (v := nI 2) (by decide) ?_
    exact g_iret hC hR dX9_cellFault_9 ⟨congrArg (fun z => some (Value.int z)) (if_neg h5).symm, rfl, rfl⟩
set_option maxRecDepth 20000 in
set_option maxHeartbeats 4000000 in
theorem x_cellFault_0 (t : Nat) (ht5 : t ≤ 5) (i : Int32) : gCt l D vwCl (gKK D cy adK adV) yX9_cellFault wsX9_cellFault { frames := 4, cells := 0, slots := 0, locals := 83 } [.null, .int (nI t), .int i] L f (pE (some (.int (nI 1))) L f) := by
  refine gCt.of gKK_ok (by decide) rfl rfl (fun X hC hR hnm => ?_)
  have hC : gC X l _ D vwCl (cyT cy) (gKK D cy adK adV) cX9_cellFault 4 wsX9_cellFault RX9 := hC
  show gW X vwCl 4 L f 0 0 0 [(0, .null), (1, .int (nI t)), (2, .int i)] []
  have hth : isTh L f none 0 := Or.inl ⟨rfl, rfl⟩
  refine g_aload_n hC dX9_cellFault_0 rfl 0 rfl (Or.inl rfl) ?_
  refine g_iload_n hC dX9_cellFault_1 rfl 1 rfl ?_
  refine g_S (As := [.null, .int (nI t)]) (st := []) hC 2 dX9_cellFault_2 gX9_cellFault_X9_mayBeCast rfl (by decide +kernel) ⟨Nat.le_of_ble_eq_true rfl, Nat.le_of_ble_eq_true rfl⟩ rfl (Nat.le_of_ble_eq_true rfl) ⟨Nat.le_of_ble_eq_true rfl, Nat.le_of_ble_eq_true rfl⟩ (c2 := 0) (s2 := 0) rfl rfl (x_mayBeCast none 0 hth t ht5) ?_
  refine g_ifN_ne (a := 1) (tgt := 10) hC dX9_cellFault_5 (by decide) (by omega) (fun h5 => ?_) (fun h5 => ?_)
  · refine g_aload_n hC dX9_cellFault_10 rfl 0 rfl (Or.inl rfl) ?_
    refine g_S (As := [.null]) (st := []) hC 1 dX9_cellFault_11 gX9_cellFault_X9_asRow rfl (by decide +kernel) ⟨Nat.le_of_ble_eq_true rfl, Nat.le_of_ble_eq_true rfl⟩ rfl (Nat.le_of_ble_eq_true rfl) ⟨Nat.le_of_ble_eq_true rfl, Nat.le_of_ble_eq_true rfl⟩ (c2 := 0) (s2 := 0) rfl rfl (x_asRow none 0 hth) ?_
    refine g_astore_n (lv' := [(3, .null), (0, .null), (1, .int (nI t)), (2, .int i)]) hC dX9_cellFault_14 rfl (by decide) rfl (Or.inl rfl) ?_
    refine g_aload_n hC dX9_cellFault_15 rfl 0 rfl (Or.inl rfl) ?_
    refine g_ifnonnull (o := none) (tgt := 21) hC dX9_cellFault_16 (by decide) (fun a16 h16 => ?_) (fun h16 => ?_)
    · cases h16
    · refine g_iconst hC dX9_cellFault_19 (v := nI 1) (by decide) ?_
      exact g_iret hC hR dX9_cellFault_20 ⟨rfl, rfl, rfl⟩
  · exfalso; omega
set_option maxRecDepth 20000 in
set_option maxHeartbeats 4000000 in
theorem x_cellFault_T (a : Nat) (fs : List Value) (ha : a ∈ L ∧ f a = .inr (5, fs)) (t : Nat) (ht3 : t ≤ 3) (i : Int32) : gCt l D vwCl (gKK D cy adK adV) yX9_cellFault wsX9_cellFault { frames := 4, cells := 0, slots := 0, locals := 83 } [.ref a, .int (nI t), .int i] L f (pE (some (.int (nI 2))) L f) := by
  refine gCt.of gKK_ok (by decide) rfl rfl (fun X hC hR hnm => ?_)
  have hC : gC X l _ D vwCl (cyT cy) (gKK D cy adK adV) cX9_cellFault 4 wsX9_cellFault RX9 := hC
  show gW X vwCl 4 L f 0 0 0 [(0, .ref a), (1, .int (nI t)), (2, .int i)] []
  have hth : isTh L f (some a) 4 := Or.inr ⟨a, 5, _, rfl, ha, Or.inr (Or.inr (Or.inr (Or.inl ⟨rfl, rfl⟩)))⟩
  refine g_aload_n hC dX9_cellFault_0 rfl 0 rfl (Or.inr ⟨_, rfl⟩) ?_
  refine g_iload_n hC dX9_cellFault_1 rfl 1 rfl ?_
  refine g_S (As := [.ref a, .int (nI t)]) (st := []) hC 2 dX9_cellFault_2 gX9_cellFault_X9_mayBeCast rfl (by decide +kernel) ⟨Nat.le_of_ble_eq_true rfl, Nat.le_of_ble_eq_true rfl⟩ rfl (Nat.le_of_ble_eq_true rfl) ⟨Nat.le_of_ble_eq_true rfl, Nat.le_of_ble_eq_true rfl⟩ (c2 := 0) (s2 := 0) rfl rfl (by have z := x_mayBeCast (l := l) (D := D) (cy := cy) (adK := adK) (adV := adV) (some a) 4 hth t (by omega); rw [bI_f (show ¬ (4 = 0 ∨ isK 4 t) by unfold isK; omega)] at z; exact z) ?_
  refine g_ifN_ne (a := 0) (tgt := 10) hC dX9_cellFault_5 (by decide) (by omega) (fun h5 => ?_) (fun h5 => ?_)
  · exfalso; omega
  · refine g_iconst hC dX9_cellFault_8 (v := nI 2) (by decide) ?_
    exact g_iret hC hR dX9_cellFault_9 ⟨rfl, rfl, rfl⟩
set_option maxRecDepth 20000 in
set_option maxHeartbeats 4000000 in
theorem x_cellFault_K (a : Nat) (fs : List Value) (ha : a ∈ L ∧ f a = .inr (1, fs)) (t : Nat) (ht3 : t ≤ 3) (i : Int32) : gCt l D vwCl (gKK D cy adK adV) yX9_cellFault wsX9_cellFault { frames := 4, cells := 0, slots := 0, locals := 83 } [.ref a, .int (nI t), .int i] L f (pE (some (.int (nI 2))) L f) := by
  refine gCt.of gKK_ok (by decide) rfl rfl (fun X hC hR hnm => ?_)
  have hC : gC X l _ D vwCl (cyT cy) (gKK D cy adK adV) cX9_cellFault 4 wsX9_cellFault RX9 := hC
  show gW X vwCl 4 L f 0 0 0 [(0, .ref a), (1, .int (nI t)), (2, .int i)] []
  have hth : isTh L f (some a) 5 := Or.inr ⟨a, 1, _, rfl, ha, Or.inr (Or.inr (Or.inr (Or.inr ⟨rfl, rfl⟩)))⟩
  refine g_aload_n hC dX9_cellFault_0 rfl 0 rfl (Or.inr ⟨_, rfl⟩) ?_
  refine g_iload_n hC dX9_cellFault_1 rfl 1 rfl ?_
  refine g_S (As := [.ref a, .int (nI t)]) (st := []) hC 2 dX9_cellFault_2 gX9_cellFault_X9_mayBeCast rfl (by decide +kernel) ⟨Nat.le_of_ble_eq_true rfl, Nat.le_of_ble_eq_true rfl⟩ rfl (Nat.le_of_ble_eq_true rfl) ⟨Nat.le_of_ble_eq_true rfl, Nat.le_of_ble_eq_true rfl⟩ (c2 := 0) (s2 := 0) rfl rfl (by have z := x_mayBeCast (l := l) (D := D) (cy := cy) (adK := adK) (adV := adV) (some a) 5 hth t (by omega); rw [bI_f (show ¬ (5 = 0 ∨ isK 5 t) by unfold isK; omega)] at z; exact z) ?_
  refine g_ifN_ne (a := 0) (tgt := 10) hC dX9_cellFault_5 (by decide) (by omega) (fun h5 => ?_) (fun h5 => ?_)
  · exfalso; omega
  · refine g_iconst hC dX9_cellFault_8 (v := nI 2) (by decide) ?_
    exact g_iret hC hR dX9_cellFault_9 ⟨rfl, rfl, rfl⟩
end Y0
