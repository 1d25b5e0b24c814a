/-- a row of bytes: the object a, its cells c: n numbers g -/
def isB (cy : Nat → ClassId) (L : List Nat) (f : Nat → va_E) (a c n : Nat) (g : Nat → Int32) : Prop := (a ∈ L ∧ f a = .inr (0, [.ref c])) ∧ (c ∈ L ∧ f c = .inl (cy 0, n, .inl g)) ∧ n ≤ 16
theorem isB.lt {cy : Nat → ClassId} {L : List Nat} {f : Nat → va_E} {a c n : Nat} {g : Nat → Int32} (h : isB cy L f a c n g) : n < 2 ^ 31 := by
  have := h.2.2
  omega
/-- a row of signs: the object a, its cells c: n numbers g -/
def isS (cy : Nat → ClassId) (L : List Nat) (f : Nat → va_E) (a c n : Nat) (g : Nat → Int32) : Prop := (a ∈ L ∧ f a = .inr (4, [.ref c])) ∧ (c ∈ L ∧ f c = .inl (cy 1, n, .inl g)) ∧ n ≤ 16
theorem isS.lt {cy : Nat → ClassId} {L : List Nat} {f : Nat → va_E} {a c n : Nat} {g : Nat → Int32} (h : isS cy L f a c n g) : n < 2 ^ 31 := by
  have := h.2.2
  omega
section X1
variable {l : Launch} {D : va_G} {cy adK adV : Nat → Nat} {L : List Nat} {f : Nat → va_E}
set_option maxRecDepth 20000 in
set_option maxHeartbeats 4000000 in
theorem x_0_kind  (a : Nat) : gCt l D vwCl (gKK D cy adK adV) yX0_kind wsX0_kind { frames := 0, cells := 0, slots := 0, locals := 0 } [.ref a] L f (pE (some (.int (nI 1))) L f) := by
  refine gCt.of gKK_ok (by decide) rfl rfl (fun X hC hR hnm => ?_)
  have hC : gC X l _ D vwCl (cyT cy) (gKK D cy adK adV) cX0_kind 1 wsX0_kind RX0 := hC
  show gW X vwCl 1 L f 0 0 0 [(0, .ref a)] []
  refine g_iconst hC dX0_kind_0 (v := nI 1) (by decide) ?_
  exact g_iret hC hR dX0_kind_1 ⟨rfl, rfl, rfl⟩
set_option maxRecDepth 20000 in
set_option maxHeartbeats 4000000 in
theorem x_6_kind  (a : Nat) : gCt l D vwCl (gKK D cy adK adV) yX6_kind wsX6_kind { frames := 0, cells := 0, slots := 0, locals := 0 } [.ref a] L f (pE (some (.int (nI 2))) L f) := by
  refine gCt.of gKK_ok (by decide) rfl rfl (fun X hC hR hnm => ?_)
  have hC : gC X l _ D vwCl (cyT cy) (gKK D cy adK adV) cX6_kind 1 wsX6_kind RX6 := hC
  show gW X vwCl 1 L f 0 0 0 [(0, .ref a)] []
  refine g_iconst hC dX6_kind_0 (v := nI 2) (by decide) ?_
  exact g_iret hC hR dX6_kind_1 ⟨rfl, rfl, rfl⟩
set_option maxRecDepth 20000 in
set_option maxHeartbeats 4000000 in
theorem x_5_kind  (a : Nat) : gCt l D vwCl (gKK D cy adK adV) yX5_kind wsX5_kind { frames := 0, cells := 0, slots := 0, locals := 0 } [.ref a] L f (pE (some (.int (nI 3))) L f) := by
  refine gCt.of gKK_ok (by decide) rfl rfl (fun X hC hR hnm => ?_)
  have hC : gC X l _ D vwCl (cyT cy) (gKK D cy adK adV) cX5_kind 1 wsX5_kind RX5 := hC
  show gW X vwCl 1 L f 0 0 0 [(0, .ref a)] []
  refine g_iconst hC dX5_kind_0 (v := nI 3) (by decide) ?_
  exact g_iret hC hR dX5_kind_1 ⟨rfl, rfl, rfl⟩
set_option maxRecDepth 20000 in
set_option maxHeartbeats 4000000 in
theorem x_7_kind  (a : Nat) : gCt l D vwCl (gKK D cy adK adV) yX7_kind wsX7_kind { frames := 0, cells := 0, slots := 0, locals := 0 } [.ref a] L f (pE (some (.int (nI 4))) L f) := by
  refine gCt.of gKK_ok (by decide) rfl rfl (fun X hC hR hnm => ?_)
  have hC : gC X l _ D vwCl (cyT cy) (gKK D cy adK adV) cX7_kind 1 wsX7_kind RX7 := hC
  show gW X vwCl 1 L f 0 0 0 [(0, .ref a)] []
  refine g_iconst hC dX7_kind_0 (v := nI 4) (by decide) ?_
  exact g_iret hC hR dX7_kind_1 ⟨rfl, rfl, rfl⟩
set_option maxRecDepth 20000 in
set_option maxHeartbeats 4000000 in
theorem x_1_kind  (a : Nat) : gCt l D vwCl (gKK D cy adK adV) yX1_kind wsX1_kind { frames := 0, cells := 0, slots := 0, locals := 0 } [.ref a] L f (pE (some (.int (nI 5))) L f) := by
  refine gCt.of gKK_ok (by decide) rfl rfl (fun X hC hR hnm => ?_)
  have hC : gC X l _ D vwCl (cyT cy) (gKK D cy adK adV) cX1_kind 1 wsX1_kind RX1 := hC
  show gW X vwCl 1 L f 0 0 0 [(0, .ref a)] []
  refine g_iconst hC dX1_kind_0 (v := nI 5) (by decide) ?_
  exact g_iret hC hR dX1_kind_1 ⟨rfl, rfl, rfl⟩
set_option maxRecDepth 20000 in
set_option maxHeartbeats 4000000 in
theorem x_0_cellCount  (a c n : Nat) (g : Nat → Int32) (ha : isB cy L f a c n g) : gCt l D vwCl (gKK D cy adK adV) yX0_cellCount wsX0_cellCount { frames := 0, cells := 0, slots := 0, locals := 0 } [.ref a] L f (pE (some (.int (nI n))) L f) := by
  refine gCt.of gKK_ok (by decide) rfl rfl (fun X hC hR hnm => ?_)
  have hC : gC X l _ D vwCl (cyT cy) (gKK D cy adK adV) cX0_cellCount 1 wsX0_cellCount RX0 := hC
  show gW X vwCl 1 L f 0 0 0 [(0, .ref a)] []
  refine g_aload_n hC dX0_cellCount_0 rfl 0 rfl (Or.inr ⟨_, rfl⟩) ?_
  refine g_get hC (by decide +kernel) rfl ha.1.1 ha.1.2 0 (by decide) (by decide +kernel) (Or.inl rfl) rfl dX0_cellCount_1 ?_
  refine g_alen hC 0 rfl ha.2.1.1 ha.2.1.2 dX0_cellCount_4 ?_
  exact g_iret hC hR dX0_cellCount_5 ⟨rfl, rfl, rfl⟩
set_option maxRecDepth 20000 in
set_option maxHeartbeats 4000000 in
theorem x_0_number  (a c n : Nat) (g : Nat → Int32) (j : Nat) (hj : j < n) (ha : isB cy L f a c n g) : gCt l D vwCl (gKK D cy adK adV) yX0_number wsX0_number { frames := 0, cells := 0, slots := 0, locals := 0 } [.ref a, .int (nI j)] L f (pE (some (.int (g j))) L f) := by
  refine gCt.of gKK_ok (by decide) rfl rfl (fun X hC hR hnm => ?_)
  have hC : gC X l _ D vwCl (cyT cy) (gKK D cy adK adV) cX0_number 2 wsX0_number RX0 := hC
  show gW X vwCl 2 L f 0 0 0 [(0, .ref a), (1, .int (nI j))] []
  refine g_aload_n hC dX0_number_0 rfl 0 rfl (Or.inr ⟨_, rfl⟩) ?_
  refine g_get hC (by decide +kernel) rfl ha.1.1 ha.1.2 0 (by decide) (by decide +kernel) (Or.inl rfl) rfl dX0_number_1 ?_
  refine g_iload_n hC dX0_number_4 rfl 1 rfl ?_
  refine g_bald hC 0 rfl ha.2.1.1 ha.2.1.2 (j) rfl (by omega) (ha.lt) dX0_number_5 ?_
  exact g_iret hC hR dX0_number_6 ⟨rfl, rfl, rfl⟩
set_option maxRecDepth 20000 in
set_option maxHeartbeats 4000000 in
theorem x_0_numberWithoutSign  (a c n : Nat) (g : Nat → Int32) (j : Nat) (hj : j < n) (ha : isB cy L f a c n g) : gCt l D vwCl (gKK D cy adK adV) yX0_numberWithoutSign wsX0_numberWithoutSign { frames := 0, cells := 0, slots := 0, locals := 0 } [.ref a, .int (nI j)] L f (pE (some (.int (g j &&& nI 255))) L f) := by
  refine gCt.of gKK_ok (by decide) rfl rfl (fun X hC hR hnm => ?_)
  have hC : gC X l _ D vwCl (cyT cy) (gKK D cy adK adV) cX0_numberWithoutSign 2 wsX0_numberWithoutSign RX0 := hC
  show gW X vwCl 2 L f 0 0 0 [(0, .ref a), (1, .int (nI j))] []
  refine g_aload_n hC dX0_numberWithoutSign_0 rfl 0 rfl (Or.inr ⟨_, rfl⟩) ?_
  refine g_get hC (by decide +kernel) rfl ha.1.1 ha.1.2 0 (by decide) (by decide +kernel) (Or.inl rfl) rfl dX0_numberWithoutSign_1 ?_
  refine g_iload_n hC dX0_numberWithoutSign_4 rfl 1 rfl ?_
  refine g_bald hC 0 rfl ha.2.1.1 ha.2.1.2 (j) rfl (by omega) (ha.lt) dX0_numberWithoutSign_5 ?_
  refine g_sipush hC dX0_numberWithoutSign_6 (v := nI 255) (by decide) ?_
  refine g_iand hC dX0_numberWithoutSign_9 ?_
  exact g_iret hC hR dX0_numberWithoutSign_10 ⟨rfl, rfl, rfl⟩
set_option maxRecDepth 20000 in
set_option maxHeartbeats 4000000 in
theorem x_0_hasAll  (a c n : Nat) (g : Nat → Int32) (d n2 : Nat) (g2 : Nat → Int32) (hdL : d ∈ L) (hdf : f d = .inl (cy 0, n2, .inl g2)) (hn2 : n2 ≤ 16) (ha : isB cy L f a c n g) : gCt l D vwCl (gKK D cy adK adV) yX0_hasAll wsX0_hasAll { frames := 0, cells := 0, slots := 0, locals := 0 } [.ref a, .ref d] L f (pE (some (.int (bI (n = n2 ∧ ∀ i, i < n → g i = g2 i)))) L f) := by
  refine gCt.of gKK_ok (by decide) rfl rfl (fun X hC hR hnm => ?_)
  have hC : gC X l _ D vwCl (cyT cy) (gKK D cy adK adV) cX0_hasAll 3 wsX0_hasAll RX0 := hC
  show gW X vwCl 3 L f 0 0 0 [(0, .ref a), (1, .ref d)] []
  have hnn := ha.2.2
  refine g_aload_n hC dX0_hasAll_0 rfl 0 rfl (Or.inr ⟨_, rfl⟩) ?_
  refine g_get hC (by decide +kernel) rfl ha.1.1 ha.1.2 0 (by decide) (by decide +kernel) (Or.inl rfl) rfl dX0_hasAll_1 ?_
  refine g_alen hC 0 rfl ha.2.1.1 ha.2.1.2 dX0_hasAll_4 ?_
  refine g_aload_n hC dX0_hasAll_5 rfl 1 rfl (Or.inr ⟨_, rfl⟩) ?_
  refine g_alen hC 0 rfl hdL hdf dX0_hasAll_6 ?_
  refine g_icmpN_eq (a := n) (b := n2) (tgt := 12) hC dX0_hasAll_7 (by decide) (by omega) (by omega) (fun h7 => ?_) (fun h7 => ?_)
  · refine g_iconst hC dX0_hasAll_12 (v := nI 0) (by decide) ?_
    refine g_istore_n (lv' := [(2, .int (nI 0)), (0, .ref a), (1, .ref d)]) hC dX0_hasAll_13 rfl (by decide) rfl ?_
    have hne : n = n2 := h7
    have lp : ∀ (m : Nat) (k : Nat), n - k < m → (k ≤ n) → (∀ i, i < k → g i = g2 i) → gW X vwCl 3 L f 0 0 14 [(2, .int (nI k)), (0, .ref a), (1, .ref d)] [] := by
      intro m
      induction m with
      | zero => intros; omega
      | succ m ih =>
        intro k hm9 hk9 heq
        refine g_iload_n hC dX0_hasAll_14 rfl 0 rfl ?_
        refine g_aload_n hC dX0_hasAll_15 rfl 1 rfl (Or.inr ⟨_, rfl⟩) ?_
        refine g_get hC (by decide +kernel) rfl ha.1.1 ha.1.2 0 (by decide) (by decide +kernel) (Or.inl rfl) rfl dX0_hasAll_16 ?_
        refine g_alen hC 0 rfl ha.2.1.1 ha.2.1.2 dX0_hasAll_19 ?_
        refine g_icmpN_ge (a := k) (b := n) (tgt := 43) hC dX0_hasAll_20 (by decide) (by omega) (by omega) (fun h20 => ?_) (fun h20 => ?_)
        · refine g_iconst hC dX0_hasAll_43 (v := nI 1) (by decide) ?_
          exact g_zret hC hR rfl dX0_hasAll_44 ⟨by rw [bI_t ⟨hne, fun i hi => heq i (by omega)⟩]; rfl, rfl, rfl⟩
        · refine g_aload_n hC dX0_hasAll_23 rfl 1 rfl (Or.inr ⟨_, rfl⟩) ?_
          refine g_get hC (by decide +kernel) rfl ha.1.1 ha.1.2 0 (by decide) (by decide +kernel) (Or.inl rfl) rfl dX0_hasAll_24 ?_
          refine g_iload_n hC dX0_hasAll_27 rfl 0 rfl ?_
          refine g_bald hC 0 rfl ha.2.1.1 ha.2.1.2 (k) rfl (by omega) (ha.lt) dX0_hasAll_28 ?_
          refine g_aload_n hC dX0_hasAll_29 rfl 2 rfl (Or.inr ⟨_, rfl⟩) ?_
          refine g_iload_n hC dX0_hasAll_30 rfl 0 rfl ?_
          refine g_bald hC 0 rfl hdL hdf (k) rfl (by omega) (show n2 < 2 ^ 31 by omega) dX0_hasAll_31 ?_
          refine g_icmp_eq (x := g k) (y := g2 k) (tgt := 37) hC dX0_hasAll_32 (by decide) (fun h32 => ?_) (fun h32 => ?_)
          · refine g_iincN (n := 1) (a := k) (lv' := [(2, .int (nI (k + 1))), (0, .ref a), (1, .ref d)]) hC dX0_hasAll_37 0 rfl (by decide) rfl ?_
            refine g_goto (tgt := 14) hC dX0_hasAll_40 (by decide) ?_
            exact ih (k + 1) (by omega) (by omega) (fun i hi => by rcases Nat.lt_succ_iff_lt_or_eq.mp hi with q | q; exact heq i q; rw [q]; exact h32)
          · refine g_iconst hC dX0_hasAll_35 (v := nI 0) (by decide) ?_
            exact g_zret hC hR rfl dX0_hasAll_36 ⟨by rw [bI_f (fun q => h32 (q.2 k (by omega)))]; rfl, rfl, rfl⟩
    exact lp (n + 1) 0 (by omega) (by omega) (fun i hi => by omega)
  · refine g_iconst hC dX0_hasAll_10 (v := nI 0) (by decide) ?_
    exact g_zret hC hR rfl dX0_hasAll_11 ⟨by rw [bI_f (fun q => h7 q.1)]; rfl, rfl, rfl⟩
set_option maxRecDepth 20000 in
set_option maxHeartbeats 4000000 in
theorem x_6_cellCount  (a c n : Nat) (g : Nat → Int32) (ha : isS cy L f a c n g) : gCt l D vwCl (gKK D cy adK adV) yX6_cellCount wsX6_cellCount { frames := 0, cells := 0, slots := 0, locals := 0 } [.ref a] L f (pE (some (.int (nI n))) L f) := by
  refine gCt.of gKK_ok (by decide) rfl rfl (fun X hC hR hnm => ?_)
  have hC : gC X l _ D vwCl (cyT cy) (gKK D cy adK adV) cX6_cellCount 1 wsX6_cellCount RX6 := hC
  show gW X vwCl 1 L f 0 0 0 [(0, .ref a)] []
  refine g_aload_n hC dX6_cellCount_0 rfl 0 rfl (Or.inr ⟨_, rfl⟩) ?_
  refine g_get hC (by decide +kernel) rfl ha.1.1 ha.1.2 0 (by decide) (by decide +kernel) (Or.inl rfl) rfl dX6_cellCount_1 ?_
  refine g_alen hC 1 rfl ha.2.1.1 ha.2.1.2 dX6_cellCount_4 ?_
  exact g_iret hC hR dX6_cellCount_5 ⟨rfl, rfl, rfl⟩
set_option maxRecDepth 20000 in
set_option maxHeartbeats 4000000 in
theorem x_6_number  (a c n : Nat) (g : Nat → Int32) (j : Nat) (hj : j < n) (ha : isS cy L f a c n g) : gCt l D vwCl (gKK D cy adK adV) yX6_number wsX6_number { frames := 0, cells := 0, slots := 0, locals := 0 } [.ref a, .int (nI j)] L f (pE (some (.int (g j))) L f) := by
  refine gCt.of gKK_ok (by decide) rfl rfl (fun X hC hR hnm => ?_)
  have hC : gC X l _ D vwCl (cyT cy) (gKK D cy adK adV) cX6_number 2 wsX6_number RX6 := hC
  show gW X vwCl 2 L f 0 0 0 [(0, .ref a), (1, .int (nI j))] []
  refine g_aload_n hC dX6_number_0 rfl 0 rfl (Or.inr ⟨_, rfl⟩) ?_
  refine g_get hC (by decide +kernel) rfl ha.1.1 ha.1.2 0 (by decide) (by decide +kernel) (Or.inl rfl) rfl dX6_number_1 ?_
  refine g_iload_n hC dX6_number_4 rfl 1 rfl ?_
  refine g_cald hC 1 rfl ha.2.1.1 ha.2.1.2 (j) rfl (by omega) (ha.lt) dX6_number_5 ?_
  exact g_iret hC hR dX6_number_6 ⟨rfl, rfl, rfl⟩
set_option maxRecDepth 20000 in
set_option maxHeartbeats 4000000 in
theorem x_6_numberWithoutSign  (a c n : Nat) (g : Nat → Int32) (j : Nat) (hj : j < n) (ha : isS cy L f a c n g) : gCt l D vwCl (gKK D cy adK adV) yX6_numberWithoutSign wsX6_numberWithoutSign { frames := 0, cells := 0, slots := 0, locals := 0 } [.ref a, .int (nI j)] L f (pE (some (.int (g j))) L f) := by
  refine gCt.of gKK_ok (by decide) rfl rfl (fun X hC hR hnm => ?_)
  have hC : gC X l _ D vwCl (cyT cy) (gKK D cy adK adV) cX6_numberWithoutSign 2 wsX6_numberWithoutSign RX6 := hC
  show gW X vwCl 2 L f 0 0 0 [(0, .ref a), (1, .int (nI j))] []
  refine g_aload_n hC dX6_numberWithoutSign_0 rfl 0 rfl (Or.inr ⟨_, rfl⟩) ?_
  refine g_get hC (by decide +kernel) rfl ha.1.1 ha.1.2 0 (by decide) (by decide +kernel) (Or.inl rfl) rfl dX6_numberWithoutSign_1 ?_
  refine g_iload_n hC dX6_numberWithoutSign_4 rfl 1 rfl ?_
  refine g_cald hC 1 rfl ha.2.1.1 ha.2.1.2 (j) rfl (by omega) (ha.lt) dX6_numberWithoutSign_5 ?_
  exact g_iret hC hR dX6_numberWithoutSign_6 ⟨rfl, rfl, rfl⟩
set_option maxRecDepth 20000 in
set_option maxHeartbeats 4000000 in
theorem x_6_hasAll  (a c n : Nat) (g : Nat → Int32) (d n2 : Nat) (g2 : Nat → Int32) (hdL : d ∈ L) (hdf : f d = .inl (cy 1, n2, .inl g2)) (hn2 : n2 ≤ 16) (ha : isS cy L f a c n g) : gCt l D vwCl (gKK D cy adK adV) yX6_hasAll wsX6_hasAll { frames := 0, cells := 0, slots := 0, locals := 0 } [.ref a, .ref d] L f (pE (some (.int (bI (n = n2 ∧ ∀ i, i < n → g i = g2 i)))) L f) := by
  refine gCt.of gKK_ok (by decide) rfl rfl (fun X hC hR hnm => ?_)
  have hC : gC X l _ D vwCl (cyT cy) (gKK D cy adK adV) cX6_hasAll 3 wsX6_hasAll RX6 := hC
  show gW X vwCl 3 L f 0 0 0 [(0, .ref a), (1, .ref d)] []
  have hnn := ha.2.2
  refine g_aload_n hC dX6_hasAll_0 rfl 0 rfl (Or.inr ⟨_, rfl⟩) ?_
  refine g_get hC (by decide +kernel) rfl ha.1.1 ha.1.2 0 (by decide) (by decide +kernel) (Or.inl rfl) rfl dX6_hasAll_1 ?_
  refine g_alen hC 1 rfl ha.2.1.1 ha.2.1.2 dX6_hasAll_4 ?_
  refine g_aload_n hC dX6_hasAll_5 rfl 1 rfl (Or.inr ⟨_, rfl⟩) ?_
  refine g_alen hC 1 rfl hdL hdf dX6_hasAll_6 ?_
  refine g_icmpN_eq (a := n) (b := n2) (tgt := 12) hC dX6_hasAll_7 (by decide) (by omega) (by omega) (fun h7 => ?_) (fun h7 => ?_)
  · refine g_iconst hC dX6_hasAll_12 (v := nI 0) (by decide) ?_
    refine g_istore_n (lv' := [(2, .int (nI 0)), (0, .ref a), (1, .ref d)]) hC dX6_hasAll_13 rfl (by decide) rfl ?_
    have hne : n = n2 := h7
    have lp : ∀ (m : Nat) (k : Nat), n - k < m → (k ≤ n) → (∀ i, i < k → g i = g2 i) → gW X vwCl 3 L f 0 0 14 [(2, .int (nI k)), (0, .ref a), (1, .ref d)] [] := by
      intro m
      induction m with
      | zero => intros; omega
      | succ m ih =>
        intro k hm9 hk9 heq
        refine g_iload_n hC dX6_hasAll_14 rfl 0 rfl ?_
        refine g_aload_n hC dX6_hasAll_15 rfl 1 rfl (Or.inr ⟨_, rfl⟩) ?_
        refine g_get hC (by decide +kernel) rfl ha.1.1 ha.1.2 0 (by decide) (by decide +kernel) (Or.inl rfl) rfl dX6_hasAll_16 ?_
        refine g_alen hC 1 rfl ha.2.1.1 ha.2.1.2 dX6_hasAll_19 ?_
        refine g_icmpN_ge (a := k) (b := n) (tgt := 43) hC dX6_hasAll_20 (by decide) (by omega) (by omega) (fun h20 => ?_) (fun h20 => ?_)
        · refine g_iconst hC dX6_hasAll_43 (v := nI 1) (by decide) ?_
          exact g_zret hC hR rfl dX6_hasAll_44 ⟨by rw [bI_t ⟨hne, fun i hi => heq i (by omega)⟩]; rfl, rfl, rfl⟩
        · refine g_aload_n hC dX6_hasAll_23 rfl 1 rfl (Or.inr ⟨_, rfl⟩) ?_
          refine g_get hC (by decide +kernel) rfl ha.1.1 ha.1.2 0 (by decide) (by decide +kernel) (Or.inl rfl) rfl dX6_hasAll_24 ?_
          refine g_iload_n hC dX6_hasAll_27 rfl 0 rfl ?_
          refine g_cald hC 1 rfl ha.2.1.1 ha.2.1.2 (k) rfl (by omega) (ha.lt) dX6_hasAll_28 ?_
          refine g_aload_n hC dX6_hasAll_29 rfl 2 rfl (Or.inr ⟨_, rfl⟩) ?_
          refine g_iload_n hC dX6_hasAll_30 rfl 0 rfl ?_
          refine g_cald hC 1 rfl hdL hdf (k) rfl (by omega) (show n2 < 2 ^ 31 by omega) dX6_hasAll_31 ?_
          refine g_icmp_eq (x := g k) (y := g2 k) (tgt := 37) hC dX6_hasAll_32 (by decide) (fun h32 => ?_) (fun h32 => ?_)
          · refine g_iincN (n := 1) (a := k) (lv' := [(2, .int (nI (k + 1))), (0, .ref a), (1, .ref d)]) hC dX6_hasAll_37 0 rfl (by decide) rfl ?_
            refine g_goto (tgt := 14) hC dX6_hasAll_40 (by decide) ?_
            exact ih (k + 1) (by omega) (by omega) (fun i hi => by rcases Nat.lt_succ_iff_lt_or_eq.mp hi with q | q; exact heq i q; rw [q]; exact h32)
          · refine g_iconst hC dX6_hasAll_35 (v := nI 0) (by decide) ?_
            exact g_zret hC hR rfl dX6_hasAll_36 ⟨by rw [bI_f (fun q => h32 (q.2 k (by omega)))]; rfl, rfl, rfl⟩
    exact lp (n + 1) 0 (by omega) (by omega) (fun i hi => by omega)
  · refine g_iconst hC dX6_hasAll_10 (v := nI 0) (by decide) ?_
    exact g_zret hC hR rfl dX6_hasAll_11 ⟨by rw [bI_f (fun q => h7 q.1)]; rfl, rfl, rfl⟩
end X1
