section X2
variable {l : Launch} {D : va_G} {cy adK adV : Nat → Nat} {L : List Nat} {f : Nat → va_E}
set_option maxRecDepth 20000 in
set_option maxHeartbeats 4000000 in
theorem x_2_contentHash_B  (a c n : Nat) (g : Nat → Int32) (ha : isB cy L f a c n g) : gCt l D vwCl (gKK D cy adK adV) yX2_contentHash wsX2_contentHash { frames := 1, cells := 0, slots := 0, locals := 21 } [.ref a] L f (pE (some (.int (hsh g n))) L f) := by
  refine gCt.of gKK_ok (by decide) rfl rfl (fun X hC hR hnm => ?_)
  have hC : gC X l _ D vwCl (cyT cy) (gKK D cy adK adV) cX2_contentHash 4 wsX2_contentHash RX2 := hC
  show gW X vwCl 4 L f 0 0 0 [(0, .ref a)] []
  have hnn := ha.2.2
  refine g_iconst hC dX2_contentHash_0 (v := nI 0) (by decide) ?_
  refine g_istore_n (lv' := [(1, .int (nI 0)), (0, .ref a)]) hC dX2_contentHash_1 rfl (by decide) rfl ?_
  refine g_aload_n hC dX2_contentHash_2 rfl 1 rfl (Or.inr ⟨_, rfl⟩) ?_
  refine g_A (As := []) (st := []) hC 0 dX2_contentHash_3 rfl ha.1.1 ha.1.2 gX2_contentHash_X0_cellCount_u7X0 rfl (gKK_D ⟨"KeptTerms$Row", "cellCount", "()I"⟩ (by decide)) (by decide +kernel) ⟨Nat.le_of_ble_eq_true rfl, Nat.le_of_ble_eq_true rfl⟩ rfl (Nat.le_of_ble_eq_true rfl) ⟨Nat.le_of_ble_eq_true rfl, Nat.le_of_ble_eq_true rfl⟩ (c2 := 0) (s2 := 0) rfl rfl (x_0_cellCount a c n g ha) ?_
  refine g_istore_n (lv' := [(2, .int (nI n)), (1, .int (nI 0)), (0, .ref a)]) hC dX2_contentHash_6 rfl (by decide) rfl ?_
  refine g_iconst hC dX2_contentHash_7 (v := nI 0) (by decide) ?_
  refine g_istore_n (lv' := [(3, .int (nI 0)), (2, .int (nI n)), (1, .int (nI 0)), (0, .ref a)]) hC dX2_contentHash_8 rfl (by decide) rfl ?_
  have lp : ∀ (m : Nat) (k : Nat), n - k < m → (k ≤ n) → gW X vwCl 4 L f 0 0 9 [(3, .int (nI k)), (1, .int (hsh g k)), (2, .int (nI n)), (0, .ref a)] [] := by
    intro m
    induction m with
    | zero => intros; omega
    | succ m ih =>
      intro k hm9 hk9
      refine g_iload_n hC dX2_contentHash_9 rfl 0 rfl ?_
      refine g_iload_n hC dX2_contentHash_10 rfl 2 rfl ?_
      refine g_icmpN_ge (a := k) (b := n) (tgt := 31) hC dX2_contentHash_11 (by decide) (by omega) (by omega) (fun h11 => ?_) (fun h11 => ?_)
      · refine g_iload_n hC dX2_contentHash_31 rfl 1 rfl ?_
        obtain rfl : k = n := by omega
        exact g_iret hC hR dX2_contentHash_32 ⟨rfl, rfl, rfl⟩
      · refine g_bipush hC dX2_contentHash_14 (v := nI 31) (by decide) ?_
        refine g_iload_n hC dX2_contentHash_16 rfl 1 rfl ?_
        refine g_imul hC dX2_contentHash_17 ?_
        refine g_aload_n hC dX2_contentHash_18 rfl 3 rfl (Or.inr ⟨_, rfl⟩) ?_
        refine g_iload_n hC dX2_contentHash_19 rfl 0 rfl ?_
        refine g_A (As := [.int (nI k)]) (st := [.int ((nI 31) * (hsh g k))]) hC 1 dX2_contentHash_20 rfl ha.1.1 ha.1.2 gX2_contentHash_X0_number_u13X0 rfl (gKK_D ⟨"KeptTerms$Numbers", "number", "(I)I"⟩ (by decide)) (by decide +kernel) ⟨Nat.le_of_ble_eq_true rfl, Nat.le_of_ble_eq_true rfl⟩ rfl (Nat.le_of_ble_eq_true rfl) ⟨Nat.le_of_ble_eq_true rfl, Nat.le_of_ble_eq_true rfl⟩ (c2 := 0) (s2 := 0) rfl rfl (x_0_number a c n g k (by omega) ha) ?_
        refine g_iadd hC dX2_contentHash_23 ?_
        refine g_istore_n (lv' := [(1, .int (((nI 31) * (hsh g k)) + (g k))), (3, .int (nI k)), (2, .int (nI n)), (0, .ref a)]) hC dX2_contentHash_24 rfl (by decide) rfl ?_
        refine g_iincN (n := 1) (a := k) (lv' := [(3, .int (nI (k + 1))), (1, .int (((nI 31) * (hsh g k)) + (g k))), (2, .int (nI n)), (0, .ref a)]) hC dX2_contentHash_25 1 rfl (by decide) rfl ?_
        refine g_goto (tgt := 9) hC dX2_contentHash_28 (by decide) ?_
        exact ih (k + 1) (by omega) (by omega)
  refine g_lv (lv' := [(3, .int (nI 0)), (1, .int (nI 0)), (2, .int (nI n)), (0, .ref a)]) [0, 2, 1, 3] rfl ?_
  exact lp (n + 1) 0 (by omega) (by omega)
set_option maxRecDepth 20000 in
set_option maxHeartbeats 4000000 in
theorem x_2_contentHash_S  (a c n : Nat) (g : Nat → Int32) (ha : isS cy L f a c n g) : gCt l D vwCl (gKK D cy adK adV) yX2_contentHash wsX2_contentHash { frames := 1, cells := 0, slots := 0, locals := 21 } [.ref a] L f (pE (some (.int (hsh g n))) L f) := by
  refine gCt.of gKK_ok (by decide) rfl rfl (fun X hC hR hnm => ?_)
  have hC : gC X l _ D vwCl (cyT cy) (gKK D cy adK adV) cX2_contentHash 4 wsX2_contentHash RX2 := hC
  show gW X vwCl 4 L f 0 0 0 [(0, .ref a)] []
  have hnn := ha.2.2
  refine g_iconst hC dX2_contentHash_0 (v := nI 0) (by decide) ?_
  refine g_istore_n (lv' := [(1, .int (nI 0)), (0, .ref a)]) hC dX2_contentHash_1 rfl (by decide) rfl ?_
  refine g_aload_n hC dX2_contentHash_2 rfl 1 rfl (Or.inr ⟨_, rfl⟩) ?_
  refine g_A (As := []) (st := []) hC 0 dX2_contentHash_3 rfl ha.1.1 ha.1.2 gX2_contentHash_X6_cellCount_u7X6 rfl (gKK_D ⟨"KeptTerms$Row", "cellCount", "()I"⟩ (by decide)) (by decide +kernel) ⟨Nat.le_of_ble_eq_true rfl, Nat.le_of_ble_eq_true rfl⟩ rfl (Nat.le_of_ble_eq_true rfl) ⟨Nat.le_of_ble_eq_true rfl, Nat.le_of_ble_eq_true rfl⟩ (c2 := 0) (s2 := 0) rfl rfl (x_6_cellCount a c n g ha) ?_
  refine g_istore_n (lv' := [(2, .int (nI n)), (1, .int (nI 0)), (0, .ref a)]) hC dX2_contentHash_6 rfl (by decide) rfl ?_
  refine g_iconst hC dX2_contentHash_7 (v := nI 0) (by decide) ?_
  refine g_istore_n (lv' := [(3, .int (nI 0)), (2, .int (nI n)), (1, .int (nI 0)), (0, .ref a)]) hC dX2_contentHash_8 rfl (by decide) rfl ?_
  have lp : ∀ (m : Nat) (k : Nat), n - k < m → (k ≤ n) → gW X vwCl 4 L f 0 0 9 [(3, .int (nI k)), (1, .int (hsh g k)), (2, .int (nI n)), (0, .ref a)] [] := by
    intro m
    induction m with
    | zero => intros; omega
    | succ m ih =>
      intro k hm9 hk9
      refine g_iload_n hC dX2_contentHash_9 rfl 0 rfl ?_
      refine g_iload_n hC dX2_contentHash_10 rfl 2 rfl ?_
      refine g_icmpN_ge (a := k) (b := n) (tgt := 31) hC dX2_contentHash_11 (by decide) (by omega) (by omega) (fun h11 => ?_) (fun h11 => ?_)
      · refine g_iload_n hC dX2_contentHash_31 rfl 1 rfl ?_
        obtain rfl : k = n := by omega
        exact g_iret hC hR dX2_contentHash_32 ⟨rfl, rfl, rfl⟩
      · refine g_bipush hC dX2_contentHash_14 (v := nI 31) (by decide) ?_
        refine g_iload_n hC dX2_contentHash_16 rfl 1 rfl ?_
        refine g_imul hC dX2_contentHash_17 ?_
        refine g_aload_n hC dX2_contentHash_18 rfl 3 rfl (Or.inr ⟨_, rfl⟩) ?_
        refine g_iload_n hC dX2_contentHash_19 rfl 0 rfl ?_
        refine g_A (As := [.int (nI k)]) (st := [.int ((nI 31) * (hsh g k))]) hC 1 dX2_contentHash_20 rfl ha.1.1 ha.1.2 gX2_contentHash_X6_number_u13X6 rfl (gKK_D ⟨"KeptTerms$Numbers", "number", "(I)I"⟩ (by decide)) (by decide +kernel) ⟨Nat.le_of_ble_eq_true rfl, Nat.le_of_ble_eq_true rfl⟩ rfl (Nat.le_of_ble_eq_true rfl) ⟨Nat.le_of_ble_eq_true rfl, Nat.le_of_ble_eq_true rfl⟩ (c2 := 0) (s2 := 0) rfl rfl (x_6_number a c n g k (by omega) ha) ?_
        refine g_iadd hC dX2_contentHash_23 ?_
        refine g_istore_n (lv' := [(1, .int (((nI 31) * (hsh g k)) + (g k))), (3, .int (nI k)), (2, .int (nI n)), (0, .ref a)]) hC dX2_contentHash_24 rfl (by decide) rfl ?_
        refine g_iincN (n := 1) (a := k) (lv' := [(3, .int (nI (k + 1))), (1, .int (((nI 31) * (hsh g k)) + (g k))), (2, .int (nI n)), (0, .ref a)]) hC dX2_contentHash_25 1 rfl (by decide) rfl ?_
        refine g_goto (tgt := 9) hC dX2_contentHash_28 (by decide) ?_
        exact ih (k + 1) (by omega) (by omega)
  refine g_lv (lv' := [(3, .int (nI 0)), (1, .int (nI 0)), (2, .int (nI n)), (0, .ref a)]) [0, 2, 1, 3] rfl ?_
  exact lp (n + 1) 0 (by omega) (by omega)
set_option maxRecDepth 20000 in
set_option maxHeartbeats 4000000 in
theorem x_0_isLike_B  (a c n : Nat) (g : Nat → Int32) (b d n2 : Nat) (g2 : Nat → Int32) (ha : isB cy L f a c n g) (hb : isB cy L f b d n2 g2) : gCt l D vwCl (gKK D cy adK adV) yX0_isLike wsX0_isLike { frames := 1, cells := 0, slots := 0, locals := 22 } [.ref a, .ref b] L f (pE (some (.int (bI (n = n2 ∧ ∀ i, i < n → g i = g2 i)))) L f) := by
  refine gCt.of gKK_ok (by decide) rfl rfl (fun X hC hR hnm => ?_)
  have hC : gC X l _ D vwCl (cyT cy) (gKK D cy adK adV) cX0_isLike 2 wsX0_isLike RX0 := hC
  show gW X vwCl 2 L f 0 0 0 [(0, .ref a), (1, .ref b)] []
  refine g_aload_n hC dX0_isLike_0 rfl 1 rfl (Or.inr ⟨_, rfl⟩) ?_
  refine g_instY hC (by decide +kernel) (gKK_C "KeptTerms$Bytes" "KeptTerms$Bytes" (by decide)) rfl hb.1.1 hb.1.2 dX0_isLike_1 ?_
  refine g_val (w := .int (nI 1)) rfl ?_
  refine g_ifN_eq (a := 1) (tgt := 25) hC dX0_isLike_4 (by decide) (by omega) (fun h4 => ?_) (fun h4 => ?_)
  · exfalso; omega
  · refine g_aload_n hC dX0_isLike_7 rfl 0 rfl (Or.inr ⟨_, rfl⟩) ?_
    refine g_aload_n hC dX0_isLike_8 rfl 1 rfl (Or.inr ⟨_, rfl⟩) ?_
    refine g_castY hC (by decide +kernel) (gKK_C "KeptTerms$Bytes" "KeptTerms$Bytes" (by decide)) rfl hb.1.1 hb.1.2 dX0_isLike_9 ?_
    refine g_get hC (by decide +kernel) rfl hb.1.1 hb.1.2 0 (by decide) (by decide +kernel) (Or.inl rfl) rfl dX0_isLike_12 ?_
    refine g_V (As := [.ref d]) (st := []) hC 1 dX0_isLike_15 rfl ha.1.1 ha.1.2 gX0_isLike_X0_hasAll rfl (by decide +kernel) ⟨Nat.le_of_ble_eq_true rfl, Nat.le_of_ble_eq_true rfl⟩ rfl (Nat.le_of_ble_eq_true rfl) ⟨Nat.le_of_ble_eq_true rfl, Nat.le_of_ble_eq_true rfl⟩ (c2 := 0) (s2 := 0) rfl rfl (x_0_hasAll a c n g d n2 g2 hb.2.1.1 hb.2.1.2 hb.2.2 ha) ?_
    refine g_ifB_eq (P := n = n2 ∧ ∀ i, i < n → g i = g2 i) (tgt := 25) hC dX0_isLike_18 (by decide) (fun h18 => ?_) (fun h18 => ?_)
    · refine g_iconst hC dX0_isLike_25 (v := nI 0) (by decide) ?_
      exact g_zret hC hR rfl dX0_isLike_26 ⟨by rw [bI_f h18]; rfl, rfl, rfl⟩
    · refine g_iconst hC dX0_isLike_21 (v := nI 1) (by decide) ?_
      refine g_goto (tgt := 26) hC dX0_isLike_22 (by decide) ?_
      exact g_zret hC hR rfl dX0_isLike_26 ⟨by rw [bI_t h18]; rfl, rfl, rfl⟩
set_option maxRecDepth 20000 in
set_option maxHeartbeats 4000000 in
theorem x_0_isLike_S  (a c n : Nat) (g : Nat → Int32) (b d n2 : Nat) (g2 : Nat → Int32) (ha : isB cy L f a c n g) (hb : isS cy L f b d n2 g2) : gCt l D vwCl (gKK D cy adK adV) yX0_isLike wsX0_isLike { frames := 1, cells := 0, slots := 0, locals := 22 } [.ref a, .ref b] L f (pE (some (.int (nI 0))) L f) := by
  refine gCt.of gKK_ok (by decide) rfl rfl (fun X hC hR hnm => ?_)
  have hC : gC X l _ D vwCl (cyT cy) (gKK D cy adK adV) cX0_isLike 2 wsX0_isLike RX0 := hC
  show gW X vwCl 2 L f 0 0 0 [(0, .ref a), (1, .ref b)] []
  refine g_aload_n hC dX0_isLike_0 rfl 1 rfl (Or.inr ⟨_, rfl⟩) ?_
  refine g_instNo hC (by decide +kernel) (gKK_N "KeptTerms$Signs" "KeptTerms$Bytes" (by decide)) rfl hb.1.1 hb.1.2 dX0_isLike_1 ?_
  refine g_val (w := .int (nI 0)) rfl ?_
  refine g_ifN_eq (a := 0) (tgt := 25) hC dX0_isLike_4 (by decide) (by omega) (fun h4 => ?_) (fun h4 => ?_)
  · refine g_iconst hC dX0_isLike_25 (v := nI 0) (by decide) ?_
    exact g_zret hC hR rfl dX0_isLike_26 ⟨rfl, rfl, rfl⟩
  · exfalso; omega
set_option maxRecDepth 20000 in
set_option maxHeartbeats 4000000 in
theorem x_6_isLike_B  (a c n : Nat) (g : Nat → Int32) (b d n2 : Nat) (g2 : Nat → Int32) (ha : isS cy L f a c n g) (hb : isB cy L f b d n2 g2) : gCt l D vwCl (gKK D cy adK adV) yX6_isLike wsX6_isLike { frames := 1, cells := 0, slots := 0, locals := 22 } [.ref a, .ref b] L f (pE (some (.int (nI 0))) L f) := by
  refine gCt.of gKK_ok (by decide) rfl rfl (fun X hC hR hnm => ?_)
  have hC : gC X l _ D vwCl (cyT cy) (gKK D cy adK adV) cX6_isLike 2 wsX6_isLike RX6 := hC
  show gW X vwCl 2 L f 0 0 0 [(0, .ref a), (1, .ref b)] []
  refine g_aload_n hC dX6_isLike_0 rfl 1 rfl (Or.inr ⟨_, rfl⟩) ?_
  refine g_instNo hC (by decide +kernel) (gKK_N "KeptTerms$Bytes" "KeptTerms$Signs" (by decide)) rfl hb.1.1 hb.1.2 dX6_isLike_1 ?_
  refine g_val (w := .int (nI 0)) rfl ?_
  refine g_ifN_eq (a := 0) (tgt := 25) hC dX6_isLike_4 (by decide) (by omega) (fun h4 => ?_) (fun h4 => ?_)
  · refine g_iconst hC dX6_isLike_25 (v := nI 0) (by decide) ?_
    exact g_zret hC hR rfl dX6_isLike_26 ⟨rfl, rfl, rfl⟩
  · exfalso; omega
set_option maxRecDepth 20000 in
set_option maxHeartbeats 4000000 in
theorem x_6_isLike_S  (a c n : Nat) (g : Nat → Int32) (b d n2 : Nat) (g2 : Nat → Int32) (ha : isS cy L f a c n g) (hb : isS cy L f b d n2 g2) : gCt l D vwCl (gKK D cy adK adV) yX6_isLike wsX6_isLike { frames := 1, cells := 0, slots := 0, locals := 22 } [.ref a, .ref b] L f (pE (some (.int (bI (n = n2 ∧ ∀ i, i < n → g i = g2 i)))) L f) := by
  refine gCt.of gKK_ok (by decide) rfl rfl (fun X hC hR hnm => ?_)
  have hC : gC X l _ D vwCl (cyT cy) (gKK D cy adK adV) cX6_isLike 2 wsX6_isLike RX6 := hC
  show gW X vwCl 2 L f 0 0 0 [(0, .ref a), (1, .ref b)] []
  refine g_aload_n hC dX6_isLike_0 rfl 1 rfl (Or.inr ⟨_, rfl⟩) ?_
  refine g_instY hC (by decide +kernel) (gKK_C "KeptTerms$Signs" "KeptTerms$Signs" (by decide)) rfl hb.1.1 hb.1.2 dX6_isLike_1 ?_
  refine g_val (w := .int (nI 1)) rfl ?_
  refine g_ifN_eq (a := 1) (tgt := 25) hC dX6_isLike_4 (by decide) (by omega) (fun h4 => ?_) (fun h4 => ?_)
  · exfalso; omega
  · refine g_aload_n hC dX6_isLike_7 rfl 0 rfl (Or.inr ⟨_, rfl⟩) ?_
    refine g_aload_n hC dX6_isLike_8 rfl 1 rfl (Or.inr ⟨_, rfl⟩) ?_
    refine g_castY hC (by decide +kernel) (gKK_C "KeptTerms$Signs" "KeptTerms$Signs" (by decide)) rfl hb.1.1 hb.1.2 dX6_isLike_9 ?_
    refine g_get hC (by decide +kernel) rfl hb.1.1 hb.1.2 0 (by decide) (by decide +kernel) (Or.inl rfl) rfl dX6_isLike_12 ?_
    refine g_V (As := [.ref d]) (st := []) hC 1 dX6_isLike_15 rfl ha.1.1 ha.1.2 gX6_isLike_X6_hasAll rfl (by decide +kernel) ⟨Nat.le_of_ble_eq_true rfl, Nat.le_of_ble_eq_true rfl⟩ rfl (Nat.le_of_ble_eq_true rfl) ⟨Nat.le_of_ble_eq_true rfl, Nat.le_of_ble_eq_true rfl⟩ (c2 := 0) (s2 := 0) rfl rfl (x_6_hasAll a c n g d n2 g2 hb.2.1.1 hb.2.1.2 hb.2.2 ha) ?_
    refine g_ifB_eq (P := n = n2 ∧ ∀ i, i < n → g i = g2 i) (tgt := 25) hC dX6_isLike_18 (by decide) (fun h18 => ?_) (fun h18 => ?_)
    · refine g_iconst hC dX6_isLike_25 (v := nI 0) (by decide) ?_
      exact g_zret hC hR rfl dX6_isLike_26 ⟨by rw [bI_f h18]; rfl, rfl, rfl⟩
    · refine g_iconst hC dX6_isLike_21 (v := nI 1) (by decide) ?_
      refine g_goto (tgt := 26) hC dX6_isLike_22 (by decide) ?_
      exact g_zret hC hR rfl dX6_isLike_26 ⟨by rw [bI_t h18]; rfl, rfl, rfl⟩
set_option maxRecDepth 20000 in
set_option maxHeartbeats 4000000 in
theorem x_4_hasCell_B  (a c n : Nat) (g : Nat → Int32) (ha : isB cy L f a c n g) (i : Int32) : gCt l D vwCl (gKK D cy adK adV) yX4_hasCell wsX4_hasCell { frames := 1, cells := 0, slots := 0, locals := 20 } [.ref a, .int i] L f (pE (some (.int (bI (0 ≤ i ∧ i < nI n)))) L f) := by
  refine gCt.of gKK_ok (by decide) rfl rfl (fun X hC hR hnm => ?_)
  have hC : gC X l _ D vwCl (cyT cy) (gKK D cy adK adV) cX4_hasCell 2 wsX4_hasCell RX4 := hC
  show gW X vwCl 2 L f 0 0 0 [(0, .ref a), (1, .int i)] []
  refine g_iload_n hC dX4_hasCell_0 rfl 1 rfl ?_
  refine g_if_lt (x := i) (tgt := 16) hC dX4_hasCell_1 (by decide) (fun h1 => ?_) (fun h1 => ?_)
  · refine g_iconst hC dX4_hasCell_16 (v := nI 0) (by decide) ?_
    have z9 : ¬ (0 ≤ i ∧ i < nI n) := by
      simp only [Int32.lt_iff_toInt_lt, Int32.le_iff_toInt_le, Int32.toInt_zero] at *; omega
    exact g_zret hC hR rfl dX4_hasCell_17 ⟨by rw [bI_f z9]; rfl, rfl, rfl⟩
  · refine g_iload_n hC dX4_hasCell_4 rfl 1 rfl ?_
    refine g_aload_n hC dX4_hasCell_5 rfl 0 rfl (Or.inr ⟨_, rfl⟩) ?_
    refine g_A (As := []) (st := [.int i]) hC 0 dX4_hasCell_6 rfl ha.1.1 ha.1.2 gX4_hasCell_X0_cellCount_u7X0 rfl (gKK_D ⟨"KeptTerms$Row", "cellCount", "()I"⟩ (by decide)) (by decide +kernel) ⟨Nat.le_of_ble_eq_true rfl, Nat.le_of_ble_eq_true rfl⟩ rfl (Nat.le_of_ble_eq_true rfl) ⟨Nat.le_of_ble_eq_true rfl, Nat.le_of_ble_eq_true rfl⟩ (c2 := 0) (s2 := 0) rfl rfl (x_0_cellCount a c n g ha) ?_
    refine g_icmp_ge (x := i) (y := nI n) (tgt := 16) hC dX4_hasCell_9 (by decide) (fun h9 => ?_) (fun h9 => ?_)
    · refine g_iconst hC dX4_hasCell_16 (v := nI 0) (by decide) ?_
      have z9 : ¬ (0 ≤ i ∧ i < nI n) := by
        simp only [Int32.lt_iff_toInt_lt, Int32.le_iff_toInt_le, Int32.toInt_zero] at *; omega
      exact g_zret hC hR rfl dX4_hasCell_17 ⟨by rw [bI_f z9]; rfl, rfl, rfl⟩
    · refine g_iconst hC dX4_hasCell_12 (v := nI 1) (by decide) ?_
      refine g_goto (tgt := 17) hC dX4_hasCell_13 (by decide) ?_
      have z9 : (0 ≤ i ∧ i < nI n) := by
        simp only [Int32.lt_iff_toInt_lt, Int32.le_iff_toInt_le, Int32.toInt_zero] at *; omega
      exact g_zret hC hR rfl dX4_hasCell_17 ⟨by rw [bI_t z9]; rfl, rfl, rfl⟩
set_option maxRecDepth 20000 in
set_option maxHeartbeats 4000000 in
theorem x_4_hasCell_S  (a c n : Nat) (g : Nat → Int32) (ha : isS cy L f a c n g) (i : Int32) : gCt l D vwCl (gKK D cy adK adV) yX4_hasCell wsX4_hasCell { frames := 1, cells := 0, slots := 0, locals := 20 } [.ref a, .int i] L f (pE (some (.int (bI (0 ≤ i ∧ i < nI n)))) L f) := by
  refine gCt.of gKK_ok (by decide) rfl rfl (fun X hC hR hnm => ?_)
  have hC : gC X l _ D vwCl (cyT cy) (gKK D cy adK adV) cX4_hasCell 2 wsX4_hasCell RX4 := hC
  show gW X vwCl 2 L f 0 0 0 [(0, .ref a), (1, .int i)] []
  refine g_iload_n hC dX4_hasCell_0 rfl 1 rfl ?_
  refine g_if_lt (x := i) (tgt := 16) hC dX4_hasCell_1 (by decide) (fun h1 => ?_) (fun h1 => ?_)
  · refine g_iconst hC dX4_hasCell_16 (v := nI 0) (by decide) ?_
    have z9 : ¬ (0 ≤ i ∧ i < nI n) := by
      simp only [Int32.lt_iff_toInt_lt, Int32.le_iff_toInt_le, Int32.toInt_zero] at *; omega
    exact g_zret hC hR rfl dX4_hasCell_17 ⟨by rw [bI_f z9]; rfl, rfl, rfl⟩
  · refine g_iload_n hC dX4_hasCell_4 rfl 1 rfl ?_
    refine g_aload_n hC dX4_hasCell_5 rfl 0 rfl (Or.inr ⟨_, rfl⟩) ?_
    refine g_A (As := []) (st := [.int i]) hC 0 dX4_hasCell_6 rfl ha.1.1 ha.1.2 gX4_hasCell_X6_cellCount_u7X6 rfl (gKK_D ⟨"KeptTerms$Row", "cellCount", "()I"⟩ (by decide)) (by decide +kernel) ⟨Nat.le_of_ble_eq_true rfl, Nat.le_of_ble_eq_true rfl⟩ rfl (Nat.le_of_ble_eq_true rfl) ⟨Nat.le_of_ble_eq_true rfl, Nat.le_of_ble_eq_true rfl⟩ (c2 := 0) (s2 := 0) rfl rfl (x_6_cellCount a c n g ha) ?_
    refine g_icmp_ge (x := i) (y := nI n) (tgt := 16) hC dX4_hasCell_9 (by decide) (fun h9 => ?_) (fun h9 => ?_)
    · refine g_iconst hC dX4_hasCell_16 (v := nI 0) (by decide) ?_
      have z9 : ¬ (0 ≤ i ∧ i < nI n) := by
        simp only [Int32.lt_iff_toInt_lt, Int32.le_iff_toInt_le, Int32.toInt_zero] at *; omega
      exact g_zret hC hR rfl dX4_hasCell_17 ⟨by rw [bI_f z9]; rfl, rfl, rfl⟩
    · refine g_iconst hC dX4_hasCell_12 (v := nI 1) (by decide) ?_
      refine g_goto (tgt := 17) hC dX4_hasCell_13 (by decide) ?_
      have z9 : (0 ≤ i ∧ i < nI n) := by
        simp only [Int32.lt_iff_toInt_lt, Int32.le_iff_toInt_le, Int32.toInt_zero] at *; omega
      exact g_zret hC hR rfl dX4_hasCell_17 ⟨by rw [bI_t z9]; rfl, rfl, rfl⟩
end X2
