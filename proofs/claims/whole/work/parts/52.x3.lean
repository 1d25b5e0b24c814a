theorem g_fx {X : gX} {cl : List vw_C} {nL : Nat} {L : List Nat} {f : Nat → va_E} {cells slots pc : Nat} {lv : List (Nat × Value)} {st : List Value} {P : List Nat → (Nat → va_E) → Prop} (h : P L f) (k : ∀ f1, P L f1 → gW X cl nL L f1 cells slots pc lv st) : gW X cl nL L f cells slots pc lv st := k f h
/-- a thing of kind k (0: nothing) -/
def isTh (L : List Nat) (f : Nat → va_E) (o : Option Nat) (k : Nat) : Prop := (o = none ∧ k = 0) ∨ ∃ a ci fs, o = some a ∧ (a ∈ L ∧ f a = .inr (ci, fs)) ∧ ((k = 1 ∧ ci = 0) ∨ (k = 2 ∧ ci = 4) ∨ (k = 3 ∧ ci = 3) ∨ (k = 4 ∧ ci = 5) ∨ (k = 5 ∧ ci = 1))
abbrev isK (k t : Nat) : Prop := k = t ∨ (k = 5 ∧ t = 4)
def opB (k : Nat) (o : Option Nat) : Option Nat := if k = 1 then o else none
def opN (k : Nat) (o : Option Nat) : Option Nat := if k = 1 ∨ k = 2 then o else none
def opW (k : Nat) (o : Option Nat) : Option Nat := if k = 1 ∨ k = 2 ∨ k = 3 then o else none
def opR (k : Nat) (o : Option Nat) : Option Nat := if k = 3 then o else none
def opT (k : Nat) (o : Option Nat) : Option Nat := if k = 4 ∨ k = 5 then o else none
section X3
variable {l : Launch} {D : va_G} {cy adK adV : Nat → Nat} {L : List Nat} {f : Nat → va_E}
set_option maxRecDepth 20000 in
set_option maxHeartbeats 4000000 in
theorem x_isPlace (p : Int32) : gCt l D vwCl (gKK D cy adK adV) yX9_isPlace wsX9_isPlace { frames := 0, cells := 0, slots := 0, locals := 0 } [.int p] L f (pE (some (.int (bI (isP p)))) L f) := by
  refine gCt.of gKK_ok (by decide) rfl rfl (fun X hC hR hnm => ?_)
  have hC : gC X l _ D vwCl (cyT cy) (gKK D cy adK adV) cX9_isPlace 1 wsX9_isPlace RX9 := hC
  show gW X vwCl 1 L f 0 0 0 [(0, .int p)] []
  refine g_iload_n hC dX9_isPlace_0 rfl 0 rfl ?_
  refine g_if_lt (x := p) (tgt := 14) hC dX9_isPlace_1 (by decide) (fun h1 => ?_) (fun h1 => ?_)
  · refine g_iconst hC dX9_isPlace_14 (v := nI 0) (by decide) ?_
    have z9 : ¬ isP p := by
      have e1 : (nI 10).toInt = 10 := by decide
      have e2 : (9 : Int32).toInt = 9 := by decide
      unfold isP
      simp only [Int32.lt_iff_toInt_lt, Int32.le_iff_toInt_le, Int32.toInt_zero] at *
      omega
    exact g_zret hC hR rfl dX9_isPlace_15 ⟨by rw [bI_f z9]; rfl, rfl, rfl⟩
  · refine g_iload_n hC dX9_isPlace_4 rfl 0 rfl ?_
    refine g_bipush hC dX9_isPlace_5 (v := nI 10) (by decide) ?_
    refine g_icmp_ge (x := p) (y := nI 10) (tgt := 14) hC dX9_isPlace_7 (by decide) (fun h7 => ?_) (fun h7 => ?_)
    · refine g_iconst hC dX9_isPlace_14 (v := nI 0) (by decide) ?_
      have z9 : ¬ isP p := by
        have e1 : (nI 10).toInt = 10 := by decide
        have e2 : (9 : Int32).toInt = 9 := by decide
        unfold isP
        simp only [Int32.lt_iff_toInt_lt, Int32.le_iff_toInt_le, Int32.toInt_zero] at *
        omega
      exact g_zret hC hR rfl dX9_isPlace_15 ⟨by rw [bI_f z9]; rfl, rfl, rfl⟩
    · refine g_iconst hC dX9_isPlace_10 (v := nI 1) (by decide) ?_
      refine g_goto (tgt := 15) hC dX9_isPlace_11 (by decide) ?_
      have z9 : isP p := by
        have e1 : (nI 10).toInt = 10 := by decide
        have e2 : (9 : Int32).toInt = 9 := by decide
        unfold isP
        simp only [Int32.lt_iff_toInt_lt, Int32.le_iff_toInt_le, Int32.toInt_zero] at *
        omega
      exact g_zret hC hR rfl dX9_isPlace_15 ⟨by rw [bI_t z9]; rfl, rfl, rfl⟩
set_option maxRecDepth 20000 in
set_option maxHeartbeats 4000000 in
theorem x_isNumbersType (p : Int32) : gCt l D vwCl (gKK D cy adK adV) yX9_isNumbersType wsX9_isNumbersType { frames := 0, cells := 0, slots := 0, locals := 0 } [.int p] L f (pE (some (.int (bI (nI 1 ≤ p ∧ p ≤ nI 2)))) L f) := by
  refine gCt.of gKK_ok (by decide) rfl rfl (fun X hC hR hnm => ?_)
  have hC : gC X l _ D vwCl (cyT cy) (gKK D cy adK adV) cX9_isNumbersType 1 wsX9_isNumbersType RX9 := hC
  show gW X vwCl 1 L f 0 0 0 [(0, .int p)] []
  refine g_iload_n hC dX9_isNumbersType_0 rfl 0 rfl ?_
  refine g_iconst hC dX9_isNumbersType_1 (v := nI 1) (by decide) ?_
  refine g_icmp_eq (x := p) (y := nI 1) (tgt := 10) hC dX9_isNumbersType_2 (by decide) (fun h2 => ?_) (fun h2 => ?_)
  · refine g_iconst hC dX9_isNumbersType_10 (v := nI 1) (by decide) ?_
    refine g_goto (tgt := 15) hC dX9_isNumbersType_11 (by decide) ?_
    have z9 : nI 1 ≤ p ∧ p ≤ nI 2 := by
      rw [show p = _ from h2]
      decide
    exact g_zret hC hR rfl dX9_isNumbersType_15 ⟨by rw [bI_t z9]; rfl, rfl, rfl⟩
  · refine g_iload_n hC dX9_isNumbersType_5 rfl 0 rfl ?_
    refine g_iconst hC dX9_isNumbersType_6 (v := nI 2) (by decide) ?_
    refine g_icmp_ne (x := p) (y := nI 2) (tgt := 14) hC dX9_isNumbersType_7 (by decide) (fun h7 => ?_) (fun h7 => ?_)
    · refine g_iconst hC dX9_isNumbersType_14 (v := nI 0) (by decide) ?_
      have z9 : ¬ (nI 1 ≤ p ∧ p ≤ nI 2) := by
        intro q
        obtain ⟨j, j1, j2, rfl⟩ := ty_j (lo := 1) (hi := 2) (by decide) q (by decide)
        rcases (show j = 1 ∨ j = 2 by omega) with rfl | rfl
        · exact h2 rfl
        · exact h7 rfl
      exact g_zret hC hR rfl dX9_isNumbersType_15 ⟨by rw [bI_f z9]; rfl, rfl, rfl⟩
    · refine g_iconst hC dX9_isNumbersType_10 (v := nI 1) (by decide) ?_
      refine g_goto (tgt := 15) hC dX9_isNumbersType_11 (by decide) ?_
      have z9 : nI 1 ≤ p ∧ p ≤ nI 2 := by
        rw [show p = _ from h7]
        decide
      exact g_zret hC hR rfl dX9_isNumbersType_15 ⟨by rw [bI_t z9]; rfl, rfl, rfl⟩
set_option maxRecDepth 20000 in
set_option maxHeartbeats 4000000 in
theorem x_kindOf (o : Option Nat) (k : Nat) (ht : isTh L f o k) : gCt l D vwCl (gKK D cy adK adV) yX9_kindOf wsX9_kindOf { frames := 1, cells := 0, slots := 0, locals := 20 } [va_rf o] L f (pE (some (.int (nI k))) L f) := by
  obtain ⟨rfl, rfl⟩ | ⟨a, ci, fs, rfl, hth, ⟨rfl, rfl⟩ | ⟨rfl, rfl⟩ | ⟨rfl, rfl⟩ | ⟨rfl, rfl⟩ | ⟨rfl, rfl⟩⟩ := ht
  · refine gCt.of gKK_ok (by decide) rfl rfl (fun X hC hR hnm => ?_)
    have hC : gC X l _ D vwCl (cyT cy) (gKK D cy adK adV) cX9_kindOf 1 wsX9_kindOf RX9 := hC
    show gW X vwCl 1 L f 0 0 0 [(0, .null)] []
    refine g_aload_n hC dX9_kindOf_0 rfl 0 rfl (Or.inl rfl) ?_
    refine g_ifnonnull (o := none) (tgt := 8) hC dX9_kindOf_1 (by decide) (fun a1 h1 => ?_) (fun h1 => ?_)
    · cases h1
    · refine g_iconst hC dX9_kindOf_4 (v := nI 0) (by decide) ?_
      refine g_goto (tgt := 12) hC dX9_kindOf_5 (by decide) ?_
      exact g_iret hC hR dX9_kindOf_12 ⟨rfl, rfl, rfl⟩
  · refine gCt.of gKK_ok (by decide) rfl rfl (fun X hC hR hnm => ?_)
    have hC : gC X l _ D vwCl (cyT cy) (gKK D cy adK adV) cX9_kindOf 1 wsX9_kindOf RX9 := hC
    show gW X vwCl 1 L f 0 0 0 [(0, .ref a)] []
    refine g_aload_n hC dX9_kindOf_0 rfl 0 rfl (Or.inr ⟨_, rfl⟩) ?_
    refine g_ifnonnull (o := some a) (tgt := 8) hC dX9_kindOf_1 (by decide) (fun a1 h1 => ?_) (fun h1 => ?_)
    · refine g_aload_n hC dX9_kindOf_8 rfl 0 rfl (Or.inr ⟨_, rfl⟩) ?_
      refine g_A (As := []) (st := []) hC 0 dX9_kindOf_9 rfl hth.1 hth.2 gX9_kindOf_X0_kind_u209X0 rfl (gKK_D ⟨"KeptTerms$Thing", "kind", "()I"⟩ (by decide)) (by decide +kernel) ⟨Nat.le_of_ble_eq_true rfl, Nat.le_of_ble_eq_true rfl⟩ rfl (Nat.le_of_ble_eq_true rfl) ⟨Nat.le_of_ble_eq_true rfl, Nat.le_of_ble_eq_true rfl⟩ (c2 := 0) (s2 := 0) rfl rfl (x_0_kind a) ?_
      exact g_iret hC hR dX9_kindOf_12 ⟨rfl, rfl, rfl⟩
    · cases h1
  · refine gCt.of gKK_ok (by decide) rfl rfl (fun X hC hR hnm => ?_)
    have hC : gC X l _ D vwCl (cyT cy) (gKK D cy adK adV) cX9_kindOf 1 wsX9_kindOf RX9 := hC
    show gW X vwCl 1 L f 0 0 0 [(0, .ref a)] []
    refine g_aload_n hC dX9_kindOf_0 rfl 0 rfl (Or.inr ⟨_, rfl⟩) ?_
    refine g_ifnonnull (o := some a) (tgt := 8) hC dX9_kindOf_1 (by decide) (fun a1 h1 => ?_) (fun h1 => ?_)
    · refine g_aload_n hC dX9_kindOf_8 rfl 0 rfl (Or.inr ⟨_, rfl⟩) ?_
      refine g_A (As := []) (st := []) hC 0 dX9_kindOf_9 rfl hth.1 hth.2 gX9_kindOf_X6_kind_u209X6 rfl (gKK_D ⟨"KeptTerms$Thing", "kind", "()I"⟩ (by decide)) (by decide +kernel) ⟨Nat.le_of_ble_eq_true rfl, Nat.le_of_ble_eq_true rfl⟩ rfl (Nat.le_of_ble_eq_true rfl) ⟨Nat.le_of_ble_eq_true rfl, Nat.le_of_ble_eq_true rfl⟩ (c2 := 0) (s2 := 0) rfl rfl (x_6_kind a) ?_
      exact g_iret hC hR dX9_kindOf_12 ⟨rfl, rfl, rfl⟩
    · cases h1
  · refine gCt.of gKK_ok (by decide) rfl rfl (fun X hC hR hnm => ?_)
    have hC : gC X l _ D vwCl (cyT cy) (gKK D cy adK adV) cX9_kindOf 1 wsX9_kindOf RX9 := hC
    show gW X vwCl 1 L f 0 0 0 [(0, .ref a)] []
    refine g_aload_n hC dX9_kindOf_0 rfl 0 rfl (Or.inr ⟨_, rfl⟩) ?_
    refine g_ifnonnull (o := some a) (tgt := 8) hC dX9_kindOf_1 (by decide) (fun a1 h1 => ?_) (fun h1 => ?_)
    · refine g_aload_n hC dX9_kindOf_8 rfl 0 rfl (Or.inr ⟨_, rfl⟩) ?_
      refine g_A (As := []) (st := []) hC 0 dX9_kindOf_9 rfl hth.1 hth.2 gX9_kindOf_X5_kind_u209X5 rfl (gKK_D ⟨"KeptTerms$Thing", "kind", "()I"⟩ (by decide)) (by decide +kernel) ⟨Nat.le_of_ble_eq_true rfl, Nat.le_of_ble_eq_true rfl⟩ rfl (Nat.le_of_ble_eq_true rfl) ⟨Nat.le_of_ble_eq_true rfl, Nat.le_of_ble_eq_true rfl⟩ (c2 := 0) (s2 := 0) rfl rfl (x_5_kind a) ?_
      exact g_iret hC hR dX9_kindOf_12 ⟨rfl, rfl, rfl⟩
    · cases h1
  · refine gCt.of gKK_ok (by decide) rfl rfl (fun X hC hR hnm => ?_)
    have hC : gC X l _ D vwCl (cyT cy) (gKK D cy adK adV) cX9_kindOf 1 wsX9_kindOf RX9 := hC
    show gW X vwCl 1 L f 0 0 0 [(0, .ref a)] []
    refine g_aload_n hC dX9_kindOf_0 rfl 0 rfl (Or.inr ⟨_, rfl⟩) ?_
    refine g_ifnonnull (o := some a) (tgt := 8) hC dX9_kindOf_1 (by decide) (fun a1 h1 => ?_) (fun h1 => ?_)
    · refine g_aload_n hC dX9_kindOf_8 rfl 0 rfl (Or.inr ⟨_, rfl⟩) ?_
      refine g_A (As := []) (st := []) hC 0 dX9_kindOf_9 rfl hth.1 hth.2 gX9_kindOf_X7_kind_u209X7 rfl (gKK_D ⟨"KeptTerms$Thing", "kind", "()I"⟩ (by decide)) (by decide +kernel) ⟨Nat.le_of_ble_eq_true rfl, Nat.le_of_ble_eq_true rfl⟩ rfl (Nat.le_of_ble_eq_true rfl) ⟨Nat.le_of_ble_eq_true rfl, Nat.le_of_ble_eq_true rfl⟩ (c2 := 0) (s2 := 0) rfl rfl (x_7_kind a) ?_
      exact g_iret hC hR dX9_kindOf_12 ⟨rfl, rfl, rfl⟩
    · cases h1
  · refine gCt.of gKK_ok (by decide) rfl rfl (fun X hC hR hnm => ?_)
    have hC : gC X l _ D vwCl (cyT cy) (gKK D cy adK adV) cX9_kindOf 1 wsX9_kindOf RX9 := hC
    show gW X vwCl 1 L f 0 0 0 [(0, .ref a)] []
    refine g_aload_n hC dX9_kindOf_0 rfl 0 rfl (Or.inr ⟨_, rfl⟩) ?_
    refine g_ifnonnull (o := some a) (tgt := 8) hC dX9_kindOf_1 (by decide) (fun a1 h1 => ?_) (fun h1 => ?_)
    · refine g_aload_n hC dX9_kindOf_8 rfl 0 rfl (Or.inr ⟨_, rfl⟩) ?_
      refine g_A (As := []) (st := []) hC 0 dX9_kindOf_9 rfl hth.1 hth.2 gX9_kindOf_X1_kind_u209X1 rfl (gKK_D ⟨"KeptTerms$Thing", "kind", "()I"⟩ (by decide)) (by decide +kernel) ⟨Nat.le_of_ble_eq_true rfl, Nat.le_of_ble_eq_true rfl⟩ rfl (Nat.le_of_ble_eq_true rfl) ⟨Nat.le_of_ble_eq_true rfl, Nat.le_of_ble_eq_true rfl⟩ (c2 := 0) (s2 := 0) rfl rfl (x_1_kind a) ?_
      exact g_iret hC hR dX9_kindOf_12 ⟨rfl, rfl, rfl⟩
    · cases h1
set_option maxRecDepth 20000 in
set_option maxHeartbeats 4000000 in
theorem x_isOfType (o : Option Nat) (k : Nat) (ht : isTh L f o k) (t : Nat) (hk5 : k ≤ 5) (ht5 : t ≤ 5) : gCt l D vwCl (gKK D cy adK adV) yX9_isOfType wsX9_isOfType { frames := 2, cells := 0, slots := 0, locals := 40 } [va_rf o, .int (nI t)] L f (pE (some (.int (bI (isK k t)))) L f) := by
  rcases o with _ | a
  · refine gCt.of gKK_ok (by decide) rfl rfl (fun X hC hR hnm => ?_)
    have hC : gC X l _ D vwCl (cyT cy) (gKK D cy adK adV) cX9_isOfType 3 wsX9_isOfType RX9 := hC
    show gW X vwCl 3 L f 0 0 0 [(0, .null), (1, .int (nI t))] []
    refine g_aload_n hC dX9_isOfType_0 rfl 0 rfl (Or.inl rfl) ?_
    refine g_S (As := [.null]) (st := []) hC 1 dX9_isOfType_1 gX9_isOfType_X9_kindOf rfl (by decide +kernel) ⟨Nat.le_of_ble_eq_true rfl, Nat.le_of_ble_eq_true rfl⟩ rfl (Nat.le_of_ble_eq_true rfl) ⟨Nat.le_of_ble_eq_true rfl, Nat.le_of_ble_eq_true rfl⟩ (c2 := 0) (s2 := 0) rfl rfl (x_kindOf _ k ht) ?_
    refine g_istore_n (lv' := [(2, .int (nI k)), (0, .null), (1, .int (nI t))]) hC dX9_isOfType_4 rfl (by decide) rfl ?_
    refine g_iload_n hC dX9_isOfType_5 rfl 0 rfl ?_
    refine g_iload_n hC dX9_isOfType_6 rfl 2 rfl ?_
    refine g_icmpN_eq (a := k) (b := t) (tgt := 20) hC dX9_isOfType_7 (by decide) (by omega) (by omega) (fun h7 => ?_) (fun h7 => ?_)
    · refine g_iconst hC dX9_isOfType_20 (v := nI 1) (by decide) ?_
      refine g_goto (tgt := 25) hC dX9_isOfType_21 (by decide) ?_
      have z9 : isK k t := by unfold isK; omega
      exact g_zret hC hR rfl dX9_isOfType_25 ⟨by rw [bI_t z9]; rfl, rfl, rfl⟩
    · refine g_iload_n hC dX9_isOfType_10 rfl 0 rfl ?_
      refine g_iconst hC dX9_isOfType_11 (v := nI 5) (by decide) ?_
      refine g_icmpN_ne (a := k) (b := 5) (tgt := 24) hC dX9_isOfType_12 (by decide) (by omega) (by omega) (fun h12 => ?_) (fun h12 => ?_)
      · refine g_iconst hC dX9_isOfType_24 (v := nI 0) (by decide) ?_
        have z9 : ¬ isK k t := by unfold isK; omega
        exact g_zret hC hR rfl dX9_isOfType_25 ⟨by rw [bI_f z9]; rfl, rfl, rfl⟩
      · refine g_iload_n hC dX9_isOfType_15 rfl 2 rfl ?_
        refine g_iconst hC dX9_isOfType_16 (v := nI 4) (by decide) ?_
        refine g_icmpN_ne (a := t) (b := 4) (tgt := 24) hC dX9_isOfType_17 (by decide) (by omega) (by omega) (fun h17 => ?_) (fun h17 => ?_)
        · refine g_iconst hC dX9_isOfType_24 (v := nI 0) (by decide) ?_
          have z9 : ¬ isK k t := by unfold isK; omega
          exact g_zret hC hR rfl dX9_isOfType_25 ⟨by rw [bI_f z9]; rfl, rfl, rfl⟩
        · refine g_iconst hC dX9_isOfType_20 (v := nI 1) (by decide) ?_
          refine g_goto (tgt := 25) hC dX9_isOfType_21 (by decide) ?_
          have z9 : isK k t := by unfold isK; omega
          exact g_zret hC hR rfl dX9_isOfType_25 ⟨by rw [bI_t z9]; rfl, rfl, rfl⟩
  · refine gCt.of gKK_ok (by decide) rfl rfl (fun X hC hR hnm => ?_)
    have hC : gC X l _ D vwCl (cyT cy) (gKK D cy adK adV) cX9_isOfType 3 wsX9_isOfType RX9 := hC
    show gW X vwCl 3 L f 0 0 0 [(0, .ref a), (1, .int (nI t))] []
    refine g_aload_n hC dX9_isOfType_0 rfl 0 rfl (Or.inr ⟨_, rfl⟩) ?_
    refine g_S (As := [.ref a]) (st := []) hC 1 dX9_isOfType_1 gX9_isOfType_X9_kindOf rfl (by decide +kernel) ⟨Nat.le_of_ble_eq_true rfl, Nat.le_of_ble_eq_true rfl⟩ rfl (Nat.le_of_ble_eq_true rfl) ⟨Nat.le_of_ble_eq_true rfl, Nat.le_of_ble_eq_true rfl⟩ (c2 := 0) (s2 := 0) rfl rfl (x_kindOf _ k ht) ?_
    refine g_istore_n (lv' := [(2, .int (nI k)), (0, .ref a), (1, .int (nI t))]) hC dX9_isOfType_4 rfl (by decide) rfl ?_
    refine g_iload_n hC dX9_isOfType_5 rfl 0 rfl ?_
    refine g_iload_n hC dX9_isOfType_6 rfl 2 rfl ?_
    refine g_icmpN_eq (a := k) (b := t) (tgt := 20) hC dX9_isOfType_7 (by decide) (by omega) (by omega) (fun h7 => ?_) (fun h7 => ?_)
    · refine g_iconst hC dX9_isOfType_20 (v := nI 1) (by decide) ?_
      refine g_goto (tgt := 25) hC dX9_isOfType_21 (by decide) ?_
      have z9 : isK k t := by unfold isK; omega
      exact g_zret hC hR rfl dX9_isOfType_25 ⟨by rw [bI_t z9]; rfl, rfl, rfl⟩
    · refine g_iload_n hC dX9_isOfType_10 rfl 0 rfl ?_
      refine g_iconst hC dX9_isOfType_11 (v := nI 5) (by decide) ?_
      refine g_icmpN_ne (a := k) (b := 5) (tgt := 24) hC dX9_isOfType_12 (by decide) (by omega) (by omega) (fun h12 => ?_) (fun h12 => ?_)
      · refine g_iconst hC dX9_isOfType_24 (v := nI 0) (by decide) ?_
        have z9 : ¬ isK k t := by unfold isK; omega
        exact g_zret hC hR rfl dX9_isOfType_25 ⟨by rw [bI_f z9]; rfl, rfl, rfl⟩
      · refine g_iload_n hC dX9_isOfType_15 rfl 2 rfl ?_
        refine g_iconst hC dX9_isOfType_16 (v := nI 4) (by decide) ?_
        refine g_icmpN_ne (a := t) (b := 4) (tgt := 24) hC dX9_isOfType_17 (by decide) (by omega) (by omega) (fun h17 => ?_) (fun h17 => ?_)
        · refine g_iconst hC dX9_isOfType_24 (v := nI 0) (by decide) ?_
          have z9 : ¬ isK k t := by unfold isK; omega
          exact g_zret hC hR rfl dX9_isOfType_25 ⟨by rw [bI_f z9]; rfl, rfl, rfl⟩
        · refine g_iconst hC dX9_isOfType_20 (v := nI 1) (by decide) ?_
          refine g_goto (tgt := 25) hC dX9_isOfType_21 (by decide) ?_
          have z9 : isK k t := by unfold isK; omega
          exact g_zret hC hR rfl dX9_isOfType_25 ⟨by rw [bI_t z9]; rfl, rfl, rfl⟩
theorem isTh.no {L : List Nat} {f : Nat → va_E} {o : Option Nat} {k : Nat} (h : isTh L f o k) : (o = none → k = 0) ∧ ∀ a, o = some a → k ≠ 0 := by
  obtain ⟨rfl, rfl⟩ | ⟨a, ci, fs, rfl, -, hh⟩ := h
  · exact ⟨fun _ => rfl, fun a h => (by cases h)⟩
  · exact ⟨fun h => (by cases h), fun a _ => (by omega)⟩
theorem isTh.le {L : List Nat} {f : Nat → va_E} {o : Option Nat} {k : Nat} (h : isTh L f o k) : k ≤ 5 := by
  obtain ⟨rfl, rfl⟩ | ⟨a, ci, fs, rfl, -, hh⟩ := h <;> omega
set_option maxRecDepth 20000 in
set_option maxHeartbeats 4000000 in
theorem x_mayBeCast (o : Option Nat) (k : Nat) (ht : isTh L f o k) (t : Nat) (ht5 : t ≤ 5) : gCt l D vwCl (gKK D cy adK adV) yX9_mayBeCast wsX9_mayBeCast { frames := 3, cells := 0, slots := 0, locals := 62 } [va_rf o, .int (nI t)] L f (pE (some (.int (bI (k = 0 ∨ isK k t)))) L f) := by
  rcases o with _ | a
  · refine gCt.of gKK_ok (by decide) rfl rfl (fun X hC hR hnm => ?_)
    have hC : gC X l _ D vwCl (cyT cy) (gKK D cy adK adV) cX9_mayBeCast 2 wsX9_mayBeCast RX9 := hC
    show gW X vwCl 2 L f 0 0 0 [(0, .null), (1, .int (nI t))] []
    have hk5 := ht.le
    have hno := ht.no
    refine g_aload_n hC dX9_mayBeCast_0 rfl 0 rfl (Or.inl rfl) ?_
    refine g_ifnull (o := none) (tgt := 12) hC dX9_mayBeCast_1 (by decide) (fun h1 => ?_) (fun a1 h1 => ?_)
    · refine g_iconst hC dX9_mayBeCast_12 (v := nI 1) (by decide) ?_
      refine g_goto (tgt := 17) hC dX9_mayBeCast_13 (by decide) ?_
      have z9 : (k = 0 ∨ isK k t) := by
        exact Or.inl (hno.1 rfl)
      exact g_zret hC hR rfl dX9_mayBeCast_17 ⟨by rw [bI_t z9]; rfl, rfl, rfl⟩
    · cases h1
  · refine gCt.of gKK_ok (by decide) rfl rfl (fun X hC hR hnm => ?_)
    have hC : gC X l _ D vwCl (cyT cy) (gKK D cy adK adV) cX9_mayBeCast 2 wsX9_mayBeCast RX9 := hC
    show gW X vwCl 2 L f 0 0 0 [(0, .ref a), (1, .int (nI t))] []
    have hk5 := ht.le
    have hno := ht.no
    refine g_aload_n hC dX9_mayBeCast_0 rfl 0 rfl (Or.inr ⟨_, rfl⟩) ?_
    refine g_ifnull (o := some a) (tgt := 12) hC dX9_mayBeCast_1 (by decide) (fun h1 => ?_) (fun a1 h1 => ?_)
    · cases h1
    · refine g_aload_n hC dX9_mayBeCast_4 rfl 0 rfl (Or.inr ⟨_, rfl⟩) ?_
      refine g_iload_n hC dX9_mayBeCast_5 rfl 1 rfl ?_
      refine g_S (As := [.ref a, .int (nI t)]) (st := []) hC 2 dX9_mayBeCast_6 gX9_mayBeCast_X9_isOfType rfl (by decide +kernel) ⟨Nat.le_of_ble_eq_true rfl, Nat.le_of_ble_eq_true rfl⟩ rfl (Nat.le_of_ble_eq_true rfl) ⟨Nat.le_of_ble_eq_true rfl, Nat.le_of_ble_eq_true rfl⟩ (c2 := 0) (s2 := 0) rfl rfl (x_isOfType _ k ht t hk5 ht5) ?_
      refine g_ifB_eq (P := isK k t) (tgt := 16) hC dX9_mayBeCast_9 (by decide) (fun h9 => ?_) (fun h9 => ?_)
      · refine g_iconst hC dX9_mayBeCast_16 (v := nI 0) (by decide) ?_
        have z9 : ¬ (k = 0 ∨ isK k t) := by
          have := hno.2 _ rfl
          rintro (q | q)
          · exact this q
          · exact h9 q
        exact g_zret hC hR rfl dX9_mayBeCast_17 ⟨by rw [bI_f z9]; rfl, rfl, rfl⟩
      · refine g_iconst hC dX9_mayBeCast_12 (v := nI 1) (by decide) ?_
        refine g_goto (tgt := 17) hC dX9_mayBeCast_13 (by decide) ?_
        have z9 : (k = 0 ∨ isK k t) := by
          exact Or.inr h9
        exact g_zret hC hR rfl dX9_mayBeCast_17 ⟨by rw [bI_t z9]; rfl, rfl, rfl⟩
set_option maxRecDepth 20000 in
set_option maxHeartbeats 4000000 in
theorem x_asRow (o : Option Nat) (k : Nat) (ht : isTh L f o k) : gCt l D vwCl (gKK D cy adK adV) yX9_asRow wsX9_asRow { frames := 0, cells := 0, slots := 0, locals := 0 } [va_rf o] L f (pE (some (va_rf (opW k o))) L f) := by
  obtain ⟨rfl, rfl⟩ | ⟨a, ci, fs, rfl, hth, ⟨rfl, rfl⟩ | ⟨rfl, rfl⟩ | ⟨rfl, rfl⟩ | ⟨rfl, rfl⟩ | ⟨rfl, rfl⟩⟩ := ht
  · refine gCt.of gKK_ok (by decide) rfl rfl (fun X hC hR hnm => ?_)
    have hC : gC X l _ D vwCl (cyT cy) (gKK D cy adK adV) cX9_asRow 1 wsX9_asRow RX9 := hC
    show gW X vwCl 1 L f 0 0 0 [(0, .null)] []
    refine g_aload_n hC dX9_asRow_0 rfl 0 rfl (Or.inl rfl) ?_
    refine g_instN hC dX9_asRow_1 ?_
    refine g_ifN_eq (a := 0) (tgt := 14) hC dX9_asRow_4 (by decide) (by omega) (fun h4 => ?_) (fun h4 => ?_)
    · refine g_null hC dX9_asRow_14 ?_
      exact g_aret hC hR (Or.inl ⟨_, rfl⟩) (Or.inl rfl) dX9_asRow_15 ⟨rfl, rfl, rfl⟩
    · exfalso; omega
  · refine gCt.of gKK_ok (by decide) rfl rfl (fun X hC hR hnm => ?_)
    have hC : gC X l _ D vwCl (cyT cy) (gKK D cy adK adV) cX9_asRow 1 wsX9_asRow RX9 := hC
    show gW X vwCl 1 L f 0 0 0 [(0, .ref a)] []
    refine g_aload_n hC dX9_asRow_0 rfl 0 rfl (Or.inr ⟨_, rfl⟩) ?_
    refine g_instY hC (by decide +kernel) (gKK_C "KeptTerms$Bytes" "KeptTerms$Row" (by decide)) rfl hth.1 hth.2 dX9_asRow_1 ?_
    refine g_val (w := .int (nI 1)) rfl ?_
    refine g_ifN_eq (a := 1) (tgt := 14) hC dX9_asRow_4 (by decide) (by omega) (fun h4 => ?_) (fun h4 => ?_)
    · exfalso; omega
    · refine g_aload_n hC dX9_asRow_7 rfl 0 rfl (Or.inr ⟨_, rfl⟩) ?_
      refine g_castY hC (by decide +kernel) (gKK_C "KeptTerms$Bytes" "KeptTerms$Row" (by decide)) rfl hth.1 hth.2 dX9_asRow_8 ?_
      refine g_goto (tgt := 15) hC dX9_asRow_11 (by decide) ?_
      exact g_aret hC hR (Or.inl ⟨_, rfl⟩) (Or.inr ⟨_, rfl⟩) dX9_asRow_15 ⟨rfl, rfl, rfl⟩
  · refine gCt.of gKK_ok (by decide) rfl rfl (fun X hC hR hnm => ?_)
    have hC : gC X l _ D vwCl (cyT cy) (gKK D cy adK adV) cX9_asRow 1 wsX9_asRow RX9 := hC
    show gW X vwCl 1 L f 0 0 0 [(0, .ref a)] []
    refine g_aload_n hC dX9_asRow_0 rfl 0 rfl (Or.inr ⟨_, rfl⟩) ?_
    refine g_instY hC (by decide +kernel) (gKK_C "KeptTerms$Signs" "KeptTerms$Row" (by decide)) rfl hth.1 hth.2 dX9_asRow_1 ?_
    refine g_val (w := .int (nI 1)) rfl ?_
    refine g_ifN_eq (a := 1) (tgt := 14) hC dX9_asRow_4 (by decide) (by omega) (fun h4 => ?_) (fun h4 => ?_)
    · exfalso; omega
    · refine g_aload_n hC dX9_asRow_7 rfl 0 rfl (Or.inr ⟨_, rfl⟩) ?_
      refine g_castY hC (by decide +kernel) (gKK_C "KeptTerms$Signs" "KeptTerms$Row" (by decide)) rfl hth.1 hth.2 dX9_asRow_8 ?_
      refine g_goto (tgt := 15) hC dX9_asRow_11 (by decide) ?_
      exact g_aret hC hR (Or.inl ⟨_, rfl⟩) (Or.inr ⟨_, rfl⟩) dX9_asRow_15 ⟨rfl, rfl, rfl⟩
  · refine gCt.of gKK_ok (by decide) rfl rfl (fun X hC hR hnm => ?_)
    have hC : gC X l _ D vwCl (cyT cy) (gKK D cy adK adV) cX9_asRow 1 wsX9_asRow RX9 := hC
    show gW X vwCl 1 L f 0 0 0 [(0, .ref a)] []
    refine g_aload_n hC dX9_asRow_0 rfl 0 rfl (Or.inr ⟨_, rfl⟩) ?_
    refine g_instY hC (by decide +kernel) (gKK_C "KeptTerms$Rows" "KeptTerms$Row" (by decide)) rfl hth.1 hth.2 dX9_asRow_1 ?_
    refine g_val (w := .int (nI 1)) rfl ?_
    refine g_ifN_eq (a := 1) (tgt := 14) hC dX9_asRow_4 (by decide) (by omega) (fun h4 => ?_) (fun h4 => ?_)
    · exfalso; omega
    · refine g_aload_n hC dX9_asRow_7 rfl 0 rfl (Or.inr ⟨_, rfl⟩) ?_
      refine g_castY hC (by decide +kernel) (gKK_C "KeptTerms$Rows" "KeptTerms$Row" (by decide)) rfl hth.1 hth.2 dX9_asRow_8 ?_
      refine g_goto (tgt := 15) hC dX9_asRow_11 (by decide) ?_
      exact g_aret hC hR (Or.inl ⟨_, rfl⟩) (Or.inr ⟨_, rfl⟩) dX9_asRow_15 ⟨rfl, rfl, rfl⟩
  · refine gCt.of gKK_ok (by decide) rfl rfl (fun X hC hR hnm => ?_)
    have hC : gC X l _ D vwCl (cyT cy) (gKK D cy adK adV) cX9_asRow 1 wsX9_asRow RX9 := hC
    show gW X vwCl 1 L f 0 0 0 [(0, .ref a)] []
    refine g_aload_n hC dX9_asRow_0 rfl 0 rfl (Or.inr ⟨_, rfl⟩) ?_
    refine g_instNo hC (by decide +kernel) (gKK_N "KeptTerms$Table" "KeptTerms$Row" (by decide)) rfl hth.1 hth.2 dX9_asRow_1 ?_
    refine g_val (w := .int (nI 0)) rfl ?_
    refine g_ifN_eq (a := 0) (tgt := 14) hC dX9_asRow_4 (by decide) (by omega) (fun h4 => ?_) (fun h4 => ?_)
    · refine g_null hC dX9_asRow_14 ?_
      exact g_aret hC hR (Or.inl ⟨_, rfl⟩) (Or.inl rfl) dX9_asRow_15 ⟨rfl, rfl, rfl⟩
    · exfalso; omega
  · refine gCt.of gKK_ok (by decide) rfl rfl (fun X hC hR hnm => ?_)
    have hC : gC X l _ D vwCl (cyT cy) (gKK D cy adK adV) cX9_asRow 1 wsX9_asRow RX9 := hC
    show gW X vwCl 1 L f 0 0 0 [(0, .ref a)] []
    refine g_aload_n hC dX9_asRow_0 rfl 0 rfl (Or.inr ⟨_, rfl⟩) ?_
    refine g_instNo hC (by decide +kernel) (gKK_N "KeptTerms$Keeper" "KeptTerms$Row" (by decide)) rfl hth.1 hth.2 dX9_asRow_1 ?_
    refine g_val (w := .int (nI 0)) rfl ?_
    refine g_ifN_eq (a := 0) (tgt := 14) hC dX9_asRow_4 (by decide) (by omega) (fun h4 => ?_) (fun h4 => ?_)
    · refine g_null hC dX9_asRow_14 ?_
      exact g_aret hC hR (Or.inl ⟨_, rfl⟩) (Or.inl rfl) dX9_asRow_15 ⟨rfl, rfl, rfl⟩
    · exfalso; omega
set_option maxRecDepth 20000 in
set_option maxHeartbeats 4000000 in
theorem x_asNumbers (o : Option Nat) (k : Nat) (ht : isTh L f o k) : gCt l D vwCl (gKK D cy adK adV) yX9_asNumbers wsX9_asNumbers { frames := 0, cells := 0, slots := 0, locals := 0 } [va_rf o] L f (pE (some (va_rf (opN k o))) L f) := by
  obtain ⟨rfl, rfl⟩ | ⟨a, ci, fs, rfl, hth, ⟨rfl, rfl⟩ | ⟨rfl, rfl⟩ | ⟨rfl, rfl⟩ | ⟨rfl, rfl⟩ | ⟨rfl, rfl⟩⟩ := ht
  · refine gCt.of gKK_ok (by decide) rfl rfl (fun X hC hR hnm => ?_)
    have hC : gC X l _ D vwCl (cyT cy) (gKK D cy adK adV) cX9_asNumbers 1 wsX9_asNumbers RX9 := hC
    show gW X vwCl 1 L f 0 0 0 [(0, .null)] []
    refine g_aload_n hC dX9_asNumbers_0 rfl 0 rfl (Or.inl rfl) ?_
    refine g_instN hC dX9_asNumbers_1 ?_
    refine g_ifN_eq (a := 0) (tgt := 14) hC dX9_asNumbers_4 (by decide) (by omega) (fun h4 => ?_) (fun h4 => ?_)
    · refine g_null hC dX9_asNumbers_14 ?_
      exact g_aret hC hR (Or.inl ⟨_, rfl⟩) (Or.inl rfl) dX9_asNumbers_15 ⟨rfl, rfl, rfl⟩
    · exfalso; omega
  · refine gCt.of gKK_ok (by decide) rfl rfl (fun X hC hR hnm => ?_)
    have hC : gC X l _ D vwCl (cyT cy) (gKK D cy adK adV) cX9_asNumbers 1 wsX9_asNumbers RX9 := hC
    show gW X vwCl 1 L f 0 0 0 [(0, .ref a)] []
    refine g_aload_n hC dX9_asNumbers_0 rfl 0 rfl (Or.inr ⟨_, rfl⟩) ?_
    refine g_instY hC (by decide +kernel) (gKK_C "KeptTerms$Bytes" "KeptTerms$Numbers" (by decide)) rfl hth.1 hth.2 dX9_asNumbers_1 ?_
    refine g_val (w := .int (nI 1)) rfl ?_
    refine g_ifN_eq (a := 1) (tgt := 14) hC dX9_asNumbers_4 (by decide) (by omega) (fun h4 => ?_) (fun h4 => ?_)
    · exfalso; omega
    · refine g_aload_n hC dX9_asNumbers_7 rfl 0 rfl (Or.inr ⟨_, rfl⟩) ?_
      refine g_castY hC (by decide +kernel) (gKK_C "KeptTerms$Bytes" "KeptTerms$Numbers" (by decide)) rfl hth.1 hth.2 dX9_asNumbers_8 ?_
      refine g_goto (tgt := 15) hC dX9_asNumbers_11 (by decide) ?_
      exact g_aret hC hR (Or.inl ⟨_, rfl⟩) (Or.inr ⟨_, rfl⟩) dX9_asNumbers_15 ⟨rfl, rfl, rfl⟩
  · refine gCt.of gKK_ok (by decide) rfl rfl (fun X hC hR hnm => ?_)
    have hC : gC X l _ D vwCl (cyT cy) (gKK D cy adK adV) cX9_asNumbers 1 wsX9_asNumbers RX9 := hC
    show gW X vwCl 1 L f 0 0 0 [(0, .ref a)] []
    refine g_aload_n hC dX9_asNumbers_0 rfl 0 rfl (Or.inr ⟨_, rfl⟩) ?_
    refine g_instY hC (by decide +kernel) (gKK_C "KeptTerms$Signs" "KeptTerms$Numbers" (by decide)) rfl hth.1 hth.2 dX9_asNumbers_1 ?_
    refine g_val (w := .int (nI 1)) rfl ?_
    refine g_ifN_eq (a := 1) (tgt := 14) hC dX9_asNumbers_4 (by decide) (by omega) (fun h4 => ?_) (fun h4 => ?_)
    · exfalso; omega
    · refine g_aload_n hC dX9_asNumbers_7 rfl 0 rfl (Or.inr ⟨_, rfl⟩) ?_
      refine g_castY hC (by decide +kernel) (gKK_C "KeptTerms$Signs" "KeptTerms$Numbers" (by decide)) rfl hth.1 hth.2 dX9_asNumbers_8 ?_
      refine g_goto (tgt := 15) hC dX9_asNumbers_11 (by decide) ?_
      exact g_aret hC hR (Or.inl ⟨_, rfl⟩) (Or.inr ⟨_, rfl⟩) dX9_asNumbers_15 ⟨rfl, rfl, rfl⟩
  · refine gCt.of gKK_ok (by decide) rfl rfl (fun X hC hR hnm => ?_)
    have hC : gC X l _ D vwCl (cyT cy) (gKK D cy adK adV) cX9_asNumbers 1 wsX9_asNumbers RX9 := hC
    show gW X vwCl 1 L f 0 0 0 [(0, .ref a)] []
    refine g_aload_n hC dX9_asNumbers_0 rfl 0 rfl (Or.inr ⟨_, rfl⟩) ?_
    refine g_instNo hC (by decide +kernel) (gKK_N "KeptTerms$Rows" "KeptTerms$Numbers" (by decide)) rfl hth.1 hth.2 dX9_asNumbers_1 ?_
    refine g_val (w := .int (nI 0)) rfl ?_
    refine g_ifN_eq (a := 0) (tgt := 14) hC dX9_asNumbers_4 (by decide) (by omega) (fun h4 => ?_) (fun h4 => ?_)
    · refine g_null hC dX9_asNumbers_14 ?_
      exact g_aret hC hR (Or.inl ⟨_, rfl⟩) (Or.inl rfl) dX9_asNumbers_15 ⟨rfl, rfl, rfl⟩
    · exfalso; omega
  · refine gCt.of gKK_ok (by decide) rfl rfl (fun X hC hR hnm => ?_)
    have hC : gC X l _ D vwCl (cyT cy) (gKK D cy adK adV) cX9_asNumbers 1 wsX9_asNumbers RX9 := hC
    show gW X vwCl 1 L f 0 0 0 [(0, .ref a)] []
    refine g_aload_n hC dX9_asNumbers_0 rfl 0 rfl (Or.inr ⟨_, rfl⟩) ?_
    refine g_instNo hC (by decide +kernel) (gKK_N "KeptTerms$Table" "KeptTerms$Numbers" (by decide)) rfl hth.1 hth.2 dX9_asNumbers_1 ?_
    refine g_val (w := .int (nI 0)) rfl ?_
    refine g_ifN_eq (a := 0) (tgt := 14) hC dX9_asNumbers_4 (by decide) (by omega) (fun h4 => ?_) (fun h4 => ?_)
    · refine g_null hC dX9_asNumbers_14 ?_
      exact g_aret hC hR (Or.inl ⟨_, rfl⟩) (Or.inl rfl) dX9_asNumbers_15 ⟨rfl, rfl, rfl⟩
    · exfalso; omega
  · refine gCt.of gKK_ok (by decide) rfl rfl (fun X hC hR hnm => ?_)
    have hC : gC X l _ D vwCl (cyT cy) (gKK D cy adK adV) cX9_asNumbers 1 wsX9_asNumbers RX9 := hC
    show gW X vwCl 1 L f 0 0 0 [(0, .ref a)] []
    refine g_aload_n hC dX9_asNumbers_0 rfl 0 rfl (Or.inr ⟨_, rfl⟩) ?_
    refine g_instNo hC (by decide +kernel) (gKK_N "KeptTerms$Keeper" "KeptTerms$Numbers" (by decide)) rfl hth.1 hth.2 dX9_asNumbers_1 ?_
    refine g_val (w := .int (nI 0)) rfl ?_
    refine g_ifN_eq (a := 0) (tgt := 14) hC dX9_asNumbers_4 (by decide) (by omega) (fun h4 => ?_) (fun h4 => ?_)
    · refine g_null hC dX9_asNumbers_14 ?_
      exact g_aret hC hR (Or.inl ⟨_, rfl⟩) (Or.inl rfl) dX9_asNumbers_15 ⟨rfl, rfl, rfl⟩
    · exfalso; omega
set_option maxRecDepth 20000 in
set_option maxHeartbeats 4000000 in
theorem x_asBytes (o : Option Nat) (k : Nat) (ht : isTh L f o k) : gCt l D vwCl (gKK D cy adK adV) yX9_asBytes wsX9_asBytes { frames := 0, cells := 0, slots := 0, locals := 0 } [va_rf o] L f (pE (some (va_rf (opB k o))) L f) := by
  obtain ⟨rfl, rfl⟩ | ⟨a, ci, fs, rfl, hth, ⟨rfl, rfl⟩ | ⟨rfl, rfl⟩ | ⟨rfl, rfl⟩ | ⟨rfl, rfl⟩ | ⟨rfl, rfl⟩⟩ := ht
  · refine gCt.of gKK_ok (by decide) rfl rfl (fun X hC hR hnm => ?_)
    have hC : gC X l _ D vwCl (cyT cy) (gKK D cy adK adV) cX9_asBytes 1 wsX9_asBytes RX9 := hC
    show gW X vwCl 1 L f 0 0 0 [(0, .null)] []
    refine g_aload_n hC dX9_asBytes_0 rfl 0 rfl (Or.inl rfl) ?_
    refine g_instN hC dX9_asBytes_1 ?_
    refine g_ifN_eq (a := 0) (tgt := 14) hC dX9_asBytes_4 (by decide) (by omega) (fun h4 => ?_) (fun h4 => ?_)
    · refine g_null hC dX9_asBytes_14 ?_
      exact g_aret hC hR (Or.inl ⟨_, rfl⟩) (Or.inl rfl) dX9_asBytes_15 ⟨rfl, rfl, rfl⟩
    · exfalso; omega
  · refine gCt.of gKK_ok (by decide) rfl rfl (fun X hC hR hnm => ?_)
    have hC : gC X l _ D vwCl (cyT cy) (gKK D cy adK adV) cX9_asBytes 1 wsX9_asBytes RX9 := hC
    show gW X vwCl 1 L f 0 0 0 [(0, .ref a)] []
    refine g_aload_n hC dX9_asBytes_0 rfl 0 rfl (Or.inr ⟨_, rfl⟩) ?_
    refine g_instY hC (by decide +kernel) (gKK_C "KeptTerms$Bytes" "KeptTerms$Bytes" (by decide)) rfl hth.1 hth.2 dX9_asBytes_1 ?_
    refine g_val (w := .int (nI 1)) rfl ?_
    refine g_ifN_eq (a := 1) (tgt := 14) hC dX9_asBytes_4 (by decide) (by omega) (fun h4 => ?_) (fun h4 => ?_)
    · exfalso; omega
    · refine g_aload_n hC dX9_asBytes_7 rfl 0 rfl (Or.inr ⟨_, rfl⟩) ?_
      refine g_castY hC (by decide +kernel) (gKK_C "KeptTerms$Bytes" "KeptTerms$Bytes" (by decide)) rfl hth.1 hth.2 dX9_asBytes_8 ?_
      refine g_goto (tgt := 15) hC dX9_asBytes_11 (by decide) ?_
      exact g_aret hC hR (Or.inl ⟨_, rfl⟩) (Or.inr ⟨_, rfl⟩) dX9_asBytes_15 ⟨rfl, rfl, rfl⟩
  · refine gCt.of gKK_ok (by decide) rfl rfl (fun X hC hR hnm => ?_)
    have hC : gC X l _ D vwCl (cyT cy) (gKK D cy adK adV) cX9_asBytes 1 wsX9_asBytes RX9 := hC
    show gW X vwCl 1 L f 0 0 0 [(0, .ref a)] []
    refine g_aload_n hC dX9_asBytes_0 rfl 0 rfl (Or.inr ⟨_, rfl⟩) ?_
    refine g_instNo hC (by decide +kernel) (gKK_N "KeptTerms$Signs" "KeptTerms$Bytes" (by decide)) rfl hth.1 hth.2 dX9_asBytes_1 ?_
    refine g_val (w := .int (nI 0)) rfl ?_
    refine g_ifN_eq (a := 0) (tgt := 14) hC dX9_asBytes_4 (by decide) (by omega) (fun h4 => ?_) (fun h4 => ?_)
    · refine g_null hC dX9_asBytes_14 ?_
      exact g_aret hC hR (Or.inl ⟨_, rfl⟩) (Or.inl rfl) dX9_asBytes_15 ⟨rfl, rfl, rfl⟩
    · exfalso; omega
  · refine gCt.of gKK_ok (by decide) rfl rfl (fun X hC hR hnm => ?_)
    have hC : gC X l _ D vwCl (cyT cy) (gKK D cy adK adV) cX9_asBytes 1 wsX9_asBytes RX9 := hC
    show gW X vwCl 1 L f 0 0 0 [(0, .ref a)] []
    refine g_aload_n hC dX9_asBytes_0 rfl 0 rfl (Or.inr ⟨_, rfl⟩) ?_
    refine g_instNo hC (by decide +kernel) (gKK_N "KeptTerms$Rows" "KeptTerms$Bytes" (by decide)) rfl hth.1 hth.2 dX9_asBytes_1 ?_
    refine g_val (w := .int (nI 0)) rfl ?_
    refine g_ifN_eq (a := 0) (tgt := 14) hC dX9_asBytes_4 (by decide) (by omega) (fun h4 => ?_) (fun h4 => ?_)
    · refine g_null hC dX9_asBytes_14 ?_
      exact g_aret hC hR (Or.inl ⟨_, rfl⟩) (Or.inl rfl) dX9_asBytes_15 ⟨rfl, rfl, rfl⟩
    · exfalso; omega
  · refine gCt.of gKK_ok (by decide) rfl rfl (fun X hC hR hnm => ?_)
    have hC : gC X l _ D vwCl (cyT cy) (gKK D cy adK adV) cX9_asBytes 1 wsX9_asBytes RX9 := hC
    show gW X vwCl 1 L f 0 0 0 [(0, .ref a)] []
    refine g_aload_n hC dX9_asBytes_0 rfl 0 rfl (Or.inr ⟨_, rfl⟩) ?_
    refine g_instNo hC (by decide +kernel) (gKK_N "KeptTerms$Table" "KeptTerms$Bytes" (by decide)) rfl hth.1 hth.2 dX9_asBytes_1 ?_
    refine g_val (w := .int (nI 0)) rfl ?_
    refine g_ifN_eq (a := 0) (tgt := 14) hC dX9_asBytes_4 (by decide) (by omega) (fun h4 => ?_) (fun h4 => ?_)
    · refine g_null hC dX9_asBytes_14 ?_
      exact g_aret hC hR (Or.inl ⟨_, rfl⟩) (Or.inl rfl) dX9_asBytes_15 ⟨rfl, rfl, rfl⟩
    · exfalso; omega
  · refine gCt.of gKK_ok (by decide) rfl rfl (fun X hC hR hnm => ?_)
    have hC : gC X l _ D vwCl (cyT cy) (gKK D cy adK adV) cX9_asBytes 1 wsX9_asBytes RX9 := hC
    show gW X vwCl 1 L f 0 0 0 [(0, .ref a)] []
    refine g_aload_n hC dX9_asBytes_0 rfl 0 rfl (Or.inr ⟨_, rfl⟩) ?_
    refine g_instNo hC (by decide +kernel) (gKK_N "KeptTerms$Keeper" "KeptTerms$Bytes" (by decide)) rfl hth.1 hth.2 dX9_asBytes_1 ?_
    refine g_val (w := .int (nI 0)) rfl ?_
    refine g_ifN_eq (a := 0) (tgt := 14) hC dX9_asBytes_4 (by decide) (by omega) (fun h4 => ?_) (fun h4 => ?_)
    · refine g_null hC dX9_asBytes_14 ?_
      exact g_aret hC hR (Or.inl ⟨_, rfl⟩) (Or.inl rfl) dX9_asBytes_15 ⟨rfl, rfl, rfl⟩
    · exfalso; omega
set_option maxRecDepth 20000 in
set_option maxHeartbeats 4000000 in
theorem x_asRows (o : Option Nat) (k : Nat) (ht : isTh L f o k) : gCt l D vwCl (gKK D cy adK adV) yX9_asRows wsX9_asRows { frames := 0, cells := 0, slots := 0, locals := 0 } [va_rf o] L f (pE (some (va_rf (opR k o))) L f) := by
  obtain ⟨rfl, rfl⟩ | ⟨a, ci, fs, rfl, hth, ⟨rfl, rfl⟩ | ⟨rfl, rfl⟩ | ⟨rfl, rfl⟩ | ⟨rfl, rfl⟩ | ⟨rfl, rfl⟩⟩ := ht
  · refine gCt.of gKK_ok (by decide) rfl rfl (fun X hC hR hnm => ?_)
    have hC : gC X l _ D vwCl (cyT cy) (gKK D cy adK adV) cX9_asRows 1 wsX9_asRows RX9 := hC
    show gW X vwCl 1 L f 0 0 0 [(0, .null)] []
    refine g_aload_n hC dX9_asRows_0 rfl 0 rfl (Or.inl rfl) ?_
    refine g_instN hC dX9_asRows_1 ?_
    refine g_ifN_eq (a := 0) (tgt := 14) hC dX9_asRows_4 (by decide) (by omega) (fun h4 => ?_) (fun h4 => ?_)
    · refine g_null hC dX9_asRows_14 ?_
      exact g_aret hC hR (Or.inl ⟨_, rfl⟩) (Or.inl rfl) dX9_asRows_15 ⟨rfl, rfl, rfl⟩
    · exfalso; omega
  · refine gCt.of gKK_ok (by decide) rfl rfl (fun X hC hR hnm => ?_)
    have hC : gC X l _ D vwCl (cyT cy) (gKK D cy adK adV) cX9_asRows 1 wsX9_asRows RX9 := hC
    show gW X vwCl 1 L f 0 0 0 [(0, .ref a)] []
    refine g_aload_n hC dX9_asRows_0 rfl 0 rfl (Or.inr ⟨_, rfl⟩) ?_
    refine g_instNo hC (by decide +kernel) (gKK_N "KeptTerms$Bytes" "KeptTerms$Rows" (by decide)) rfl hth.1 hth.2 dX9_asRows_1 ?_
    refine g_val (w := .int (nI 0)) rfl ?_
    refine g_ifN_eq (a := 0) (tgt := 14) hC dX9_asRows_4 (by decide) (by omega) (fun h4 => ?_) (fun h4 => ?_)
    · refine g_null hC dX9_asRows_14 ?_
      exact g_aret hC hR (Or.inl ⟨_, rfl⟩) (Or.inl rfl) dX9_asRows_15 ⟨rfl, rfl, rfl⟩
    · exfalso; omega
  · refine gCt.of gKK_ok (by decide) rfl rfl (fun X hC hR hnm => ?_)
    have hC : gC X l _ D vwCl (cyT cy) (gKK D cy adK adV) cX9_asRows 1 wsX9_asRows RX9 := hC
    show gW X vwCl 1 L f 0 0 0 [(0, .ref a)] []
    refine g_aload_n hC dX9_asRows_0 rfl 0 rfl (Or.inr ⟨_, rfl⟩) ?_
    refine g_instNo hC (by decide +kernel) (gKK_N "KeptTerms$Signs" "KeptTerms$Rows" (by decide)) rfl hth.1 hth.2 dX9_asRows_1 ?_
    refine g_val (w := .int (nI 0)) rfl ?_
    refine g_ifN_eq (a := 0) (tgt := 14) hC dX9_asRows_4 (by decide) (by omega) (fun h4 => ?_) (fun h4 => ?_)
    · refine g_null hC dX9_asRows_14 ?_
      exact g_aret hC hR (Or.inl ⟨_, rfl⟩) (Or.inl rfl) dX9_asRows_15 ⟨rfl, rfl, rfl⟩
    · exfalso; omega
  · refine gCt.of gKK_ok (by decide) rfl rfl (fun X hC hR hnm => ?_)
    have hC : gC X l _ D vwCl (cyT cy) (gKK D cy adK adV) cX9_asRows 1 wsX9_asRows RX9 := hC
    show gW X vwCl 1 L f 0 0 0 [(0, .ref a)] []
    refine g_aload_n hC dX9_asRows_0 rfl 0 rfl (Or.inr ⟨_, rfl⟩) ?_
    refine g_instY hC (by decide +kernel) (gKK_C "KeptTerms$Rows" "KeptTerms$Rows" (by decide)) rfl hth.1 hth.2 dX9_asRows_1 ?_
    refine g_val (w := .int (nI 1)) rfl ?_
    refine g_ifN_eq (a := 1) (tgt := 14) hC dX9_asRows_4 (by decide) (by omega) (fun h4 => ?_) (fun h4 => ?_)
    · exfalso; omega
    · refine g_aload_n hC dX9_asRows_7 rfl 0 rfl (Or.inr ⟨_, rfl⟩) ?_
      refine g_castY hC (by decide +kernel) (gKK_C "KeptTerms$Rows" "KeptTerms$Rows" (by decide)) rfl hth.1 hth.2 dX9_asRows_8 ?_
      refine g_goto (tgt := 15) hC dX9_asRows_11 (by decide) ?_
      exact g_aret hC hR (Or.inl ⟨_, rfl⟩) (Or.inr ⟨_, rfl⟩) dX9_asRows_15 ⟨rfl, rfl, rfl⟩
  · refine gCt.of gKK_ok (by decide) rfl rfl (fun X hC hR hnm => ?_)
    have hC : gC X l _ D vwCl (cyT cy) (gKK D cy adK adV) cX9_asRows 1 wsX9_asRows RX9 := hC
    show gW X vwCl 1 L f 0 0 0 [(0, .ref a)] []
    refine g_aload_n hC dX9_asRows_0 rfl 0 rfl (Or.inr ⟨_, rfl⟩) ?_
    refine g_instNo hC (by decide +kernel) (gKK_N "KeptTerms$Table" "KeptTerms$Rows" (by decide)) rfl hth.1 hth.2 dX9_asRows_1 ?_
    refine g_val (w := .int (nI 0)) rfl ?_
    refine g_ifN_eq (a := 0) (tgt := 14) hC dX9_asRows_4 (by decide) (by omega) (fun h4 => ?_) (fun h4 => ?_)
    · refine g_null hC dX9_asRows_14 ?_
      exact g_aret hC hR (Or.inl ⟨_, rfl⟩) (Or.inl rfl) dX9_asRows_15 ⟨rfl, rfl, rfl⟩
    · exfalso; omega
  · refine gCt.of gKK_ok (by decide) rfl rfl (fun X hC hR hnm => ?_)
    have hC : gC X l _ D vwCl (cyT cy) (gKK D cy adK adV) cX9_asRows 1 wsX9_asRows RX9 := hC
    show gW X vwCl 1 L f 0 0 0 [(0, .ref a)] []
    refine g_aload_n hC dX9_asRows_0 rfl 0 rfl (Or.inr ⟨_, rfl⟩) ?_
    refine g_instNo hC (by decide +kernel) (gKK_N "KeptTerms$Keeper" "KeptTerms$Rows" (by decide)) rfl hth.1 hth.2 dX9_asRows_1 ?_
    refine g_val (w := .int (nI 0)) rfl ?_
    refine g_ifN_eq (a := 0) (tgt := 14) hC dX9_asRows_4 (by decide) (by omega) (fun h4 => ?_) (fun h4 => ?_)
    · refine g_null hC dX9_asRows_14 ?_
      exact g_aret hC hR (Or.inl ⟨_, rfl⟩) (Or.inl rfl) dX9_asRows_15 ⟨rfl, rfl, rfl⟩
    · exfalso; omega
set_option maxRecDepth 20000 in
set_option maxHeartbeats 4000000 in
theorem x_asTable (o : Option Nat) (k : Nat) (ht : isTh L f o k) : gCt l D vwCl (gKK D cy adK adV) yX9_asTable wsX9_asTable { frames := 0, cells := 0, slots := 0, locals := 0 } [va_rf o] L f (pE (some (va_rf (opT k o))) L f) := by
  obtain ⟨rfl, rfl⟩ | ⟨a, ci, fs, rfl, hth, ⟨rfl, rfl⟩ | ⟨rfl, rfl⟩ | ⟨rfl, rfl⟩ | ⟨rfl, rfl⟩ | ⟨rfl, rfl⟩⟩ := ht
  · refine gCt.of gKK_ok (by decide) rfl rfl (fun X hC hR hnm => ?_)
    have hC : gC X l _ D vwCl (cyT cy) (gKK D cy adK adV) cX9_asTable 1 wsX9_asTable RX9 := hC
    show gW X vwCl 1 L f 0 0 0 [(0, .null)] []
    refine g_aload_n hC dX9_asTable_0 rfl 0 rfl (Or.inl rfl) ?_
    refine g_instN hC dX9_asTable_1 ?_
    refine g_ifN_eq (a := 0) (tgt := 14) hC dX9_asTable_4 (by decide) (by omega) (fun h4 => ?_) (fun h4 => ?_)
    · refine g_null hC dX9_asTable_14 ?_
      exact g_aret hC hR (Or.inl ⟨_, rfl⟩) (Or.inl rfl) dX9_asTable_15 ⟨rfl, rfl, rfl⟩
    · exfalso; omega
  · refine gCt.of gKK_ok (by decide) rfl rfl (fun X hC hR hnm => ?_)
    have hC : gC X l _ D vwCl (cyT cy) (gKK D cy adK adV) cX9_asTable 1 wsX9_asTable RX9 := hC
    show gW X vwCl 1 L f 0 0 0 [(0, .ref a)] []
    refine g_aload_n hC dX9_asTable_0 rfl 0 rfl (Or.inr ⟨_, rfl⟩) ?_
    refine g_instNo hC (by decide +kernel) (gKK_N "KeptTerms$Bytes" "KeptTerms$Table" (by decide)) rfl hth.1 hth.2 dX9_asTable_1 ?_
    refine g_val (w := .int (nI 0)) rfl ?_
    refine g_ifN_eq (a := 0) (tgt := 14) hC dX9_asTable_4 (by decide) (by omega) (fun h4 => ?_) (fun h4 => ?_)
    · refine g_null hC dX9_asTable_14 ?_
      exact g_aret hC hR (Or.inl ⟨_, rfl⟩) (Or.inl rfl) dX9_asTable_15 ⟨rfl, rfl, rfl⟩
    · exfalso; omega
  · refine gCt.of gKK_ok (by decide) rfl rfl (fun X hC hR hnm => ?_)
    have hC : gC X l _ D vwCl (cyT cy) (gKK D cy adK adV) cX9_asTable 1 wsX9_asTable RX9 := hC
    show gW X vwCl 1 L f 0 0 0 [(0, .ref a)] []
    refine g_aload_n hC dX9_asTable_0 rfl 0 rfl (Or.inr ⟨_, rfl⟩) ?_
    refine g_instNo hC (by decide +kernel) (gKK_N "KeptTerms$Signs" "KeptTerms$Table" (by decide)) rfl hth.1 hth.2 dX9_asTable_1 ?_
    refine g_val (w := .int (nI 0)) rfl ?_
    refine g_ifN_eq (a := 0) (tgt := 14) hC dX9_asTable_4 (by decide) (by omega) (fun h4 => ?_) (fun h4 => ?_)
    · refine g_null hC dX9_asTable_14 ?_
      exact g_aret hC hR (Or.inl ⟨_, rfl⟩) (Or.inl rfl) dX9_asTable_15 ⟨rfl, rfl, rfl⟩
    · exfalso; omega
  · refine gCt.of gKK_ok (by decide) rfl rfl (fun X hC hR hnm => ?_)
    have hC : gC X l _ D vwCl (cyT cy) (gKK D cy adK adV) cX9_asTable 1 wsX9_asTable RX9 := hC
    show gW X vwCl 1 L f 0 0 0 [(0, .ref a)] []
    refine g_aload_n hC dX9_asTable_0 rfl 0 rfl (Or.inr ⟨_, rfl⟩) ?_
    refine g_instNo hC (by decide +kernel) (gKK_N "KeptTerms$Rows" "KeptTerms$Table" (by decide)) rfl hth.1 hth.2 dX9_asTable_1 ?_
    refine g_val (w := .int (nI 0)) rfl ?_
    refine g_ifN_eq (a := 0) (tgt := 14) hC dX9_asTable_4 (by decide) (by omega) (fun h4 => ?_) (fun h4 => ?_)
    · refine g_null hC dX9_asTable_14 ?_
      exact g_aret hC hR (Or.inl ⟨_, rfl⟩) (Or.inl rfl) dX9_asTable_15 ⟨rfl, rfl, rfl⟩
    · exfalso; omega
  · refine gCt.of gKK_ok (by decide) rfl rfl (fun X hC hR hnm => ?_)
    have hC : gC X l _ D vwCl (cyT cy) (gKK D cy adK adV) cX9_asTable 1 wsX9_asTable RX9 := hC
    show gW X vwCl 1 L f 0 0 0 [(0, .ref a)] []
    refine g_aload_n hC dX9_asTable_0 rfl 0 rfl (Or.inr ⟨_, rfl⟩) ?_
    refine g_instY hC (by decide +kernel) (gKK_C "KeptTerms$Table" "KeptTerms$Table" (by decide)) rfl hth.1 hth.2 dX9_asTable_1 ?_
    refine g_val (w := .int (nI 1)) rfl ?_
    refine g_ifN_eq (a := 1) (tgt := 14) hC dX9_asTable_4 (by decide) (by omega) (fun h4 => ?_) (fun h4 => ?_)
    · exfalso; omega
    · refine g_aload_n hC dX9_asTable_7 rfl 0 rfl (Or.inr ⟨_, rfl⟩) ?_
      refine g_castY hC (by decide +kernel) (gKK_C "KeptTerms$Table" "KeptTerms$Table" (by decide)) rfl hth.1 hth.2 dX9_asTable_8 ?_
      refine g_goto (tgt := 15) hC dX9_asTable_11 (by decide) ?_
      exact g_aret hC hR (Or.inl ⟨_, rfl⟩) (Or.inr ⟨_, rfl⟩) dX9_asTable_15 ⟨rfl, rfl, rfl⟩
  · refine gCt.of gKK_ok (by decide) rfl rfl (fun X hC hR hnm => ?_)
    have hC : gC X l _ D vwCl (cyT cy) (gKK D cy adK adV) cX9_asTable 1 wsX9_asTable RX9 := hC
    show gW X vwCl 1 L f 0 0 0 [(0, .ref a)] []
    refine g_aload_n hC dX9_asTable_0 rfl 0 rfl (Or.inr ⟨_, rfl⟩) ?_
    refine g_instY hC (by decide +kernel) (gKK_C "KeptTerms$Keeper" "KeptTerms$Table" (by decide)) rfl hth.1 hth.2 dX9_asTable_1 ?_
    refine g_val (w := .int (nI 1)) rfl ?_
    refine g_ifN_eq (a := 1) (tgt := 14) hC dX9_asTable_4 (by decide) (by omega) (fun h4 => ?_) (fun h4 => ?_)
    · exfalso; omega
    · refine g_aload_n hC dX9_asTable_7 rfl 0 rfl (Or.inr ⟨_, rfl⟩) ?_
      refine g_castY hC (by decide +kernel) (gKK_C "KeptTerms$Keeper" "KeptTerms$Table" (by decide)) rfl hth.1 hth.2 dX9_asTable_8 ?_
      refine g_goto (tgt := 15) hC dX9_asTable_11 (by decide) ?_
      exact g_aret hC hR (Or.inl ⟨_, rfl⟩) (Or.inr ⟨_, rfl⟩) dX9_asTable_15 ⟨rfl, rfl, rfl⟩
end X3
