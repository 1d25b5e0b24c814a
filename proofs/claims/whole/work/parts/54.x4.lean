/-- a row of rows -/
def isR (cy : Nat → ClassId) (L : List Nat) (f : Nat → va_E) (a c n : Nat) (g : Nat → Option Nat) : Prop := (a ∈ L ∧ f a = .inr (3, [.ref c])) ∧ (c ∈ L ∧ f c = qA (cy 4) n g) ∧ n ≤ 16
abbrev hcs (u w : Int32) (m : Nat) : Prop := 0 ≤ u ∧ 0 ≤ w ∧ w ≤ nI m ∧ u ≤ nI m - w
def sgn (x : Int32) : Int32 := if x < 0 then -1 else if 0 < x then 1 else 0
def agG (g g2 : Nat → Int32) (n n2 : Nat) : Int32 := agl (fun k => (g k &&& nI 255) - (g2 k &&& nI 255)) (nI n - nI n2) (if n < n2 then n else n2) 0
theorem hsh_eq {g g2 : Nat → Int32} : ∀ n, (∀ i, i < n → g i = g2 i) → hsh g n = hsh g2 n
  | 0, _ => rfl
  | n + 1, h => by rw [hsh, hsh, hsh_eq n (fun i hi => h i (by omega)), h n (by omega)]
theorem agl_eq {d d2 : Nat → Int32} {tl : Int32} : ∀ m k, (∀ i, k ≤ i → i < k + m → d i = d2 i) → agl d tl m k = agl d2 tl m k
  | 0, _, _ => rfl
  | m + 1, k, h => by rw [agl, agl, h k (by omega) (by omega), agl_eq m (k + 1) (fun i h1 h2 => h i (by omega) (by omega))]
theorem bc_hsh {S : aS} {r : Nat} : hsh (bcF S r) (S.2.1 5 r) = hsh (fun k => S.2.2 6 (16 * r + k)) (S.2.1 5 r) := hsh_eq _ (fun i hi => if_pos hi)
theorem sc_hsh {S : aS} {r : Nat} : hsh (scF S r) (S.2.1 8 r) = hsh (fun k => S.2.2 9 (16 * r + k)) (S.2.1 8 r) := hsh_eq _ (fun i hi => if_pos hi)
theorem bc_lik {S : aS} {r q : Nat} : (S.2.1 5 r = S.2.1 5 q ∧ ∀ i, i < S.2.1 5 r → bcF S r i = bcF S q i) ↔ likB S r q := by
  constructor
  · rintro ⟨h1, h2⟩
    refine ⟨h1, fun k hk => ?_⟩
    have h3 := h2 k hk
    unfold bcF at h3
    rwa [if_pos hk, if_pos (by omega)] at h3
  · rintro ⟨h1, h2⟩
    refine ⟨h1, fun k hk => ?_⟩
    unfold bcF
    rw [if_pos hk, if_pos (by omega)]
    exact h2 k hk
theorem bc_ag {S : aS} {r q : Nat} : agG (bcF S r) (bcF S q) (S.2.1 5 r) (S.2.1 5 q) = agst S r q := by
  unfold agG agst
  refine agl_eq _ _ (fun i _ hi => ?_)
  have h1 : i < S.2.1 5 r ∧ i < S.2.1 5 q := by split at hi <;> omega
  unfold bcF
  rw [if_pos h1.1, if_pos h1.2]
theorem sz_b {n : Nat} (h : ∃ e, 2 ≤ e ∧ e ≤ 8 ∧ n = 2 ^ e) : 4 ≤ n ∧ n ≤ 256 := by
  obtain ⟨e, h1, h2, rfl⟩ := h
  rcases (show e = 2 ∨ e = 3 ∨ e = 4 ∨ e = 5 ∨ e = 6 ∨ e = 7 ∨ e = 8 by omega) with rfl | rfl | rfl | rfl | rfl | rfl | rfl <;> decide
theorem slv_3 {x : Nat} (hx : x < 2 ^ 31) : slv x = -3 ↔ x = 0 := by
  unfold slv
  by_cases h : x = 0
  · rw [if_pos h]; exact ⟨fun _ => h, fun _ => rfl⟩
  · rw [if_neg h]
    refine ⟨fun q => ?_, fun q => absurd q h⟩
    have := nI_pos (n := x - 1) (by omega)
    rw [q] at this
    exact absurd (by decide) this
theorem slv_n {x : Nat} (h : x ≠ 0) : slv x = nI (x - 1) := if_neg h
theorem isR.B {cy : Nat → ClassId} {S : aS} {b : xB} {L : List Nat} {f : Nat → va_E} {r A : Nat} (h : xR cy S b L f) (hr : r < S.1 10) (hA : b.1 4 r = A) (hn : S.2.1 11 r ≤ 16) : isR cy L f A (b.1 5 r) (S.2.1 11 r) (rcF S b r) := ⟨h.W hr hA, h.Wc hr rfl, hn⟩
section X4
variable {l : Launch} {D : va_G} {cy adK adV : Nat → Nat} {L : List Nat} {f : Nat → va_E}
set_option maxRecDepth 20000 in
set_option maxHeartbeats 4000000 in
theorem x_5_cellCount  (a c n : Nat) (g : Nat → Option Nat) (ha : isR cy L f a c n g) : gCt l D vwCl (gKK D cy adK adV) yX5_cellCount wsX5_cellCount { frames := 0, cells := 0, slots := 0, locals := 0 } [.ref a] L f (pE (some (.int (nI n))) L f) := by
  refine gCt.of gKK_ok (by decide) rfl rfl (fun X hC hR hnm => ?_)
  have hC : gC X l _ D vwCl (cyT cy) (gKK D cy adK adV) cX5_cellCount 1 wsX5_cellCount RX5 := hC
  show gW X vwCl 1 L f 0 0 0 [(0, .ref a)] []
  refine g_aload_n hC dX5_cellCount_0 rfl 0 rfl (Or.inr ⟨_, rfl⟩) ?_
  refine g_get hC (by decide +kernel) rfl ha.1.1 ha.1.2 0 (by decide) (by decide +kernel) (Or.inl rfl) rfl dX5_cellCount_1 ?_
  refine g_alen hC 4 rfl ha.2.1.1 ha.2.1.2 dX5_cellCount_4 ?_
  exact g_iret hC hR dX5_cellCount_5 ⟨rfl, rfl, rfl⟩
set_option maxRecDepth 20000 in
set_option maxHeartbeats 4000000 in
theorem x_4_hasCell_R  (a c n : Nat) (g : Nat → Option Nat) (ha : isR cy L f a c n g) (i : Int32) : gCt l D vwCl (gKK D cy adK adV) yX4_hasCell wsX4_hasCell { frames := 1, cells := 0, slots := 0, locals := 20 } [.ref a, .int i] L f (pE (some (.int (bI (0 ≤ i ∧ i < nI n)))) L f) := by
  refine gCt.of gKK_ok (by decide) rfl rfl (fun X hC hR hnm => ?_)
  have hC : gC X l _ D vwCl (cyT cy) (gKK D cy adK adV) cX4_hasCell 2 wsX4_hasCell RX4 := hC
  show gW X vwCl 2 L f 0 0 0 [(0, .ref a), (1, .int i)] []
  refine g_iload_n hC dX4_hasCell_0 rfl 1 rfl ?_
  refine g_if_lt (x := i) (tgt := 16) hC dX4_hasCell_1 (by decide) (fun h1 => ?_) (fun h1 => ?_)
  · refine g_iconst hC dX4_hasCell_16 (v := nI 0) (by decide) ?_
    have z9 : ¬ (0 ≤ i ∧ i < nI n) := by
      simp only [Int32.lt_iff_toInt_lt, Int32.le_iff_toInt_le, Int32.toInt_zero] at *
      omega
    exact g_zret hC hR rfl dX4_hasCell_17 ⟨by rw [bI_f z9]; rfl, rfl, rfl⟩
  · refine g_iload_n hC dX4_hasCell_4 rfl 1 rfl ?_
    refine g_aload_n hC dX4_hasCell_5 rfl 0 rfl (Or.inr ⟨_, rfl⟩) ?_
    refine g_A (As := []) (st := [.int i]) hC 0 dX4_hasCell_6 rfl ha.1.1 ha.1.2 gX4_hasCell_X5_cellCount_u7X5 rfl (gKK_D ⟨"KeptTerms$Row", "cellCount", "()I"⟩ (by decide)) (by decide +kernel) ⟨Nat.le_of_ble_eq_true rfl, Nat.le_of_ble_eq_true rfl⟩ rfl (Nat.le_of_ble_eq_true rfl) ⟨Nat.le_of_ble_eq_true rfl, Nat.le_of_ble_eq_true rfl⟩ (c2 := 0) (s2 := 0) rfl rfl (x_5_cellCount a c n g ha) ?_
    refine g_icmp_ge (x := i) (y := nI n) (tgt := 16) hC dX4_hasCell_9 (by decide) (fun h9 => ?_) (fun h9 => ?_)
    · refine g_iconst hC dX4_hasCell_16 (v := nI 0) (by decide) ?_
      have z9 : ¬ (0 ≤ i ∧ i < nI n) := by
        simp only [Int32.lt_iff_toInt_lt, Int32.le_iff_toInt_le, Int32.toInt_zero] at *
        omega
      exact g_zret hC hR rfl dX4_hasCell_17 ⟨by rw [bI_f z9]; rfl, rfl, rfl⟩
    · refine g_iconst hC dX4_hasCell_12 (v := nI 1) (by decide) ?_
      refine g_goto (tgt := 17) hC dX4_hasCell_13 (by decide) ?_
      have z9 : (0 ≤ i ∧ i < nI n) := by
        simp only [Int32.lt_iff_toInt_lt, Int32.le_iff_toInt_le, Int32.toInt_zero] at *
        omega
      exact g_zret hC hR rfl dX4_hasCell_17 ⟨by rw [bI_t z9]; rfl, rfl, rfl⟩
set_option maxRecDepth 20000 in
set_option maxHeartbeats 4000000 in
theorem x_4_hasCells_B  (a c n : Nat) (g : Nat → Int32) (ha : isB cy L f a c n g) (u v : Int32) : gCt l D vwCl (gKK D cy adK adV) yX4_hasCells wsX4_hasCells { frames := 1, cells := 0, slots := 0, locals := 20 } [.ref a, .int u, .int v] L f (pE (some (.int (bI (hcs u v n)))) L f) := by
  refine gCt.of gKK_ok (by decide) rfl rfl (fun X hC hR hnm => ?_)
  have hC : gC X l _ D vwCl (cyT cy) (gKK D cy adK adV) cX4_hasCells 3 wsX4_hasCells RX4 := hC
  show gW X vwCl 3 L f 0 0 0 [(0, .ref a), (1, .int u), (2, .int v)] []
  refine g_iload_n hC dX4_hasCells_0 rfl 1 rfl ?_
  refine g_if_lt (x := u) (tgt := 30) hC dX4_hasCells_1 (by decide) (fun h1 => ?_) (fun h1 => ?_)
  · refine g_iconst hC dX4_hasCells_30 (v := nI 0) (by decide) ?_
    have z9 : ¬ hcs u v n := by
      unfold hcs
      simp only [← Int32.not_lt]
      simp only [Int32.not_lt] at *
      simp only [Int32.not_lt, Int32.not_le, ← Int32.not_lt] at *
      simp_all
    exact g_zret hC hR rfl dX4_hasCells_31 ⟨by rw [bI_f z9]; rfl, rfl, rfl⟩
  · refine g_iload_n hC dX4_hasCells_4 rfl 2 rfl ?_
    refine g_if_lt (x := v) (tgt := 30) hC dX4_hasCells_5 (by decide) (fun h5 => ?_) (fun h5 => ?_)
    · refine g_iconst hC dX4_hasCells_30 (v := nI 0) (by decide) ?_
      have z9 : ¬ hcs u v n := by
        unfold hcs
        simp only [← Int32.not_lt]
        simp only [Int32.not_lt] at *
        simp only [Int32.not_lt, Int32.not_le, ← Int32.not_lt] at *
        simp_all
      exact g_zret hC hR rfl dX4_hasCells_31 ⟨by rw [bI_f z9]; rfl, rfl, rfl⟩
    · refine g_iload_n hC dX4_hasCells_8 rfl 2 rfl ?_
      refine g_aload_n hC dX4_hasCells_9 rfl 0 rfl (Or.inr ⟨_, rfl⟩) ?_
      refine g_A (As := []) (st := [.int v]) hC 0 dX4_hasCells_10 rfl ha.1.1 ha.1.2 gX4_hasCells_X0_cellCount_u7X0 rfl (gKK_D ⟨"KeptTerms$Row", "cellCount", "()I"⟩ (by decide)) (by decide +kernel) ⟨Nat.le_of_ble_eq_true rfl, Nat.le_of_ble_eq_true rfl⟩ rfl (Nat.le_of_ble_eq_true rfl) ⟨Nat.le_of_ble_eq_true rfl, Nat.le_of_ble_eq_true rfl⟩ (c2 := 0) (s2 := 0) rfl rfl (x_0_cellCount a c n g ha) ?_
      refine g_icmp_gt (x := v) (y := nI n) (tgt := 30) hC dX4_hasCells_13 (by decide) (fun h13 => ?_) (fun h13 => ?_)
      · refine g_iconst hC dX4_hasCells_30 (v := nI 0) (by decide) ?_
        have z9 : ¬ hcs u v n := by
          unfold hcs
          simp only [← Int32.not_lt]
          simp only [Int32.not_lt] at *
          simp only [Int32.not_lt, Int32.not_le, ← Int32.not_lt] at *
          simp_all
        exact g_zret hC hR rfl dX4_hasCells_31 ⟨by rw [bI_f z9]; rfl, rfl, rfl⟩
      · refine g_iload_n hC dX4_hasCells_16 rfl 1 rfl ?_
        refine g_aload_n hC dX4_hasCells_17 rfl 0 rfl (Or.inr ⟨_, rfl⟩) ?_
        refine g_A (As := []) (st := [.int u]) hC 0 dX4_hasCells_18 rfl ha.1.1 ha.1.2 gX4_hasCells_X0_cellCount_u7X0 rfl (gKK_D ⟨"KeptTerms$Row", "cellCount", "()I"⟩ (by decide)) (by decide +kernel) ⟨Nat.le_of_ble_eq_true rfl, Nat.le_of_ble_eq_true rfl⟩ rfl (Nat.le_of_ble_eq_true rfl) ⟨Nat.le_of_ble_eq_true rfl, Nat.le_of_ble_eq_true rfl⟩ (c2 := 0) (s2 := 0) rfl rfl (x_0_cellCount a c n g ha) ?_
        refine g_iload_n hC dX4_hasCells_21 rfl 2 rfl ?_
        refine g_isub hC dX4_hasCells_22 ?_
        refine g_icmp_gt (x := u) (y := (nI n) - v) (tgt := 30) hC dX4_hasCells_23 (by decide) (fun h23 => ?_) (fun h23 => ?_)
        · refine g_iconst hC dX4_hasCells_30 (v := nI 0) (by decide) ?_
          have z9 : ¬ hcs u v n := by
            unfold hcs
            simp only [← Int32.not_lt]
            simp only [Int32.not_lt] at *
            simp only [Int32.not_lt, Int32.not_le, ← Int32.not_lt] at *
            simp_all
          exact g_zret hC hR rfl dX4_hasCells_31 ⟨by rw [bI_f z9]; rfl, rfl, rfl⟩
        · refine g_iconst hC dX4_hasCells_26 (v := nI 1) (by decide) ?_
          refine g_goto (tgt := 31) hC dX4_hasCells_27 (by decide) ?_
          have z9 : hcs u v n := by
            unfold hcs
            simp only [← Int32.not_lt]
            simp only [Int32.not_lt] at *
            simp only [Int32.not_lt, Int32.not_le, ← Int32.not_lt] at *
            simp_all
          exact g_zret hC hR rfl dX4_hasCells_31 ⟨by rw [bI_t z9]; rfl, rfl, rfl⟩
set_option maxRecDepth 20000 in
set_option maxHeartbeats 4000000 in
theorem x_4_hasCells_S  (a c n : Nat) (g : Nat → Int32) (ha : isS cy L f a c n g) (u v : Int32) : gCt l D vwCl (gKK D cy adK adV) yX4_hasCells wsX4_hasCells { frames := 1, cells := 0, slots := 0, locals := 20 } [.ref a, .int u, .int v] L f (pE (some (.int (bI (hcs u v n)))) L f) := by
  refine gCt.of gKK_ok (by decide) rfl rfl (fun X hC hR hnm => ?_)
  have hC : gC X l _ D vwCl (cyT cy) (gKK D cy adK adV) cX4_hasCells 3 wsX4_hasCells RX4 := hC
  show gW X vwCl 3 L f 0 0 0 [(0, .ref a), (1, .int u), (2, .int v)] []
  refine g_iload_n hC dX4_hasCells_0 rfl 1 rfl ?_
  refine g_if_lt (x := u) (tgt := 30) hC dX4_hasCells_1 (by decide) (fun h1 => ?_) (fun h1 => ?_)
  · refine g_iconst hC dX4_hasCells_30 (v := nI 0) (by decide) ?_
    have z9 : ¬ hcs u v n := by
      unfold hcs
      simp only [← Int32.not_lt]
      simp only [Int32.not_lt] at *
      simp only [Int32.not_lt, Int32.not_le, ← Int32.not_lt] at *
      simp_all
    exact g_zret hC hR rfl dX4_hasCells_31 ⟨by rw [bI_f z9]; rfl, rfl, rfl⟩
  · refine g_iload_n hC dX4_hasCells_4 rfl 2 rfl ?_
    refine g_if_lt (x := v) (tgt := 30) hC dX4_hasCells_5 (by decide) (fun h5 => ?_) (fun h5 => ?_)
    · refine g_iconst hC dX4_hasCells_30 (v := nI 0) (by decide) ?_
      have z9 : ¬ hcs u v n := by
        unfold hcs
        simp only [← Int32.not_lt]
        simp only [Int32.not_lt] at *
        simp only [Int32.not_lt, Int32.not_le, ← Int32.not_lt] at *
        simp_all
      exact g_zret hC hR rfl dX4_hasCells_31 ⟨by rw [bI_f z9]; rfl, rfl, rfl⟩
    · refine g_iload_n hC dX4_hasCells_8 rfl 2 rfl ?_
      refine g_aload_n hC dX4_hasCells_9 rfl 0 rfl (Or.inr ⟨_, rfl⟩) ?_
      refine g_A (As := []) (st := [.int v]) hC 0 dX4_hasCells_10 rfl ha.1.1 ha.1.2 gX4_hasCells_X6_cellCount_u7X6 rfl (gKK_D ⟨"KeptTerms$Row", "cellCount", "()I"⟩ (by decide)) (by decide +kernel) ⟨Nat.le_of_ble_eq_true rfl, Nat.le_of_ble_eq_true rfl⟩ rfl (Nat.le_of_ble_eq_true rfl) ⟨Nat.le_of_ble_eq_true rfl, Nat.le_of_ble_eq_true rfl⟩ (c2 := 0) (s2 := 0) rfl rfl (x_6_cellCount a c n g ha) ?_
      refine g_icmp_gt (x := v) (y := nI n) (tgt := 30) hC dX4_hasCells_13 (by decide) (fun h13 => ?_) (fun h13 => ?_)
      · refine g_iconst hC dX4_hasCells_30 (v := nI 0) (by decide) ?_
        have z9 : ¬ hcs u v n := by
          unfold hcs
          simp only [← Int32.not_lt]
          simp only [Int32.not_lt] at *
          simp only [Int32.not_lt, Int32.not_le, ← Int32.not_lt] at *
          simp_all
        exact g_zret hC hR rfl dX4_hasCells_31 ⟨by rw [bI_f z9]; rfl, rfl, rfl⟩
      · refine g_iload_n hC dX4_hasCells_16 rfl 1 rfl ?_
        refine g_aload_n hC dX4_hasCells_17 rfl 0 rfl (Or.inr ⟨_, rfl⟩) ?_
        refine g_A (As := []) (st := [.int u]) hC 0 dX4_hasCells_18 rfl ha.1.1 ha.1.2 gX4_hasCells_X6_cellCount_u7X6 rfl (gKK_D ⟨"KeptTerms$Row", "cellCount", "()I"⟩ (by decide)) (by decide +kernel) ⟨Nat.le_of_ble_eq_true rfl, Nat.le_of_ble_eq_true rfl⟩ rfl (Nat.le_of_ble_eq_true rfl) ⟨Nat.le_of_ble_eq_true rfl, Nat.le_of_ble_eq_true rfl⟩ (c2 := 0) (s2 := 0) rfl rfl (x_6_cellCount a c n g ha) ?_
        refine g_iload_n hC dX4_hasCells_21 rfl 2 rfl ?_
        refine g_isub hC dX4_hasCells_22 ?_
        refine g_icmp_gt (x := u) (y := (nI n) - v) (tgt := 30) hC dX4_hasCells_23 (by decide) (fun h23 => ?_) (fun h23 => ?_)
        · refine g_iconst hC dX4_hasCells_30 (v := nI 0) (by decide) ?_
          have z9 : ¬ hcs u v n := by
            unfold hcs
            simp only [← Int32.not_lt]
            simp only [Int32.not_lt] at *
            simp only [Int32.not_lt, Int32.not_le, ← Int32.not_lt] at *
            simp_all
          exact g_zret hC hR rfl dX4_hasCells_31 ⟨by rw [bI_f z9]; rfl, rfl, rfl⟩
        · refine g_iconst hC dX4_hasCells_26 (v := nI 1) (by decide) ?_
          refine g_goto (tgt := 31) hC dX4_hasCells_27 (by decide) ?_
          have z9 : hcs u v n := by
            unfold hcs
            simp only [← Int32.not_lt]
            simp only [Int32.not_lt] at *
            simp only [Int32.not_lt, Int32.not_le, ← Int32.not_lt] at *
            simp_all
          exact g_zret hC hR rfl dX4_hasCells_31 ⟨by rw [bI_t z9]; rfl, rfl, rfl⟩
set_option maxRecDepth 20000 in
set_option maxHeartbeats 4000000 in
theorem x_4_hasCells_R  (a c n : Nat) (g : Nat → Option Nat) (ha : isR cy L f a c n g) (u v : Int32) : gCt l D vwCl (gKK D cy adK adV) yX4_hasCells wsX4_hasCells { frames := 1, cells := 0, slots := 0, locals := 20 } [.ref a, .int u, .int v] L f (pE (some (.int (bI (hcs u v n)))) L f) := by
  refine gCt.of gKK_ok (by decide) rfl rfl (fun X hC hR hnm => ?_)
  have hC : gC X l _ D vwCl (cyT cy) (gKK D cy adK adV) cX4_hasCells 3 wsX4_hasCells RX4 := hC
  show gW X vwCl 3 L f 0 0 0 [(0, .ref a), (1, .int u), (2, .int v)] []
  refine g_iload_n hC dX4_hasCells_0 rfl 1 rfl ?_
  refine g_if_lt (x := u) (tgt := 30) hC dX4_hasCells_1 (by decide) (fun h1 => ?_) (fun h1 => ?_)
  · refine g_iconst hC dX4_hasCells_30 (v := nI 0) (by decide) ?_
    have z9 : ¬ hcs u v n := by
      unfold hcs
      simp only [← Int32.not_lt]
      simp only [Int32.not_lt] at *
      simp only [Int32.not_lt, Int32.not_le, ← Int32.not_lt] at *
      simp_all
    exact g_zret hC hR rfl dX4_hasCells_31 ⟨by rw [bI_f z9]; rfl, rfl, rfl⟩
  · refine g_iload_n hC dX4_hasCells_4 rfl 2 rfl ?_
    refine g_if_lt (x := v) (tgt := 30) hC dX4_hasCells_5 (by decide) (fun h5 => ?_) (fun h5 => ?_)
    · refine g_iconst hC dX4_hasCells_30 (v := nI 0) (by decide) ?_
      have z9 : ¬ hcs u v n := by
        unfold hcs
        simp only [← Int32.not_lt]
        simp only [Int32.not_lt] at *
        simp only [Int32.not_lt, Int32.not_le, ← Int32.not_lt] at *
        simp_all
      exact g_zret hC hR rfl dX4_hasCells_31 ⟨by rw [bI_f z9]; rfl, rfl, rfl⟩
    · refine g_iload_n hC dX4_hasCells_8 rfl 2 rfl ?_
      refine g_aload_n hC dX4_hasCells_9 rfl 0 rfl (Or.inr ⟨_, rfl⟩) ?_
      refine g_A (As := []) (st := [.int v]) hC 0 dX4_hasCells_10 rfl ha.1.1 ha.1.2 gX4_hasCells_X5_cellCount_u7X5 rfl (gKK_D ⟨"KeptTerms$Row", "cellCount", "()I"⟩ (by decide)) (by decide +kernel) ⟨Nat.le_of_ble_eq_true rfl, Nat.le_of_ble_eq_true rfl⟩ rfl (Nat.le_of_ble_eq_true rfl) ⟨Nat.le_of_ble_eq_true rfl, Nat.le_of_ble_eq_true rfl⟩ (c2 := 0) (s2 := 0) rfl rfl (x_5_cellCount a c n g ha) ?_
      refine g_icmp_gt (x := v) (y := nI n) (tgt := 30) hC dX4_hasCells_13 (by decide) (fun h13 => ?_) (fun h13 => ?_)
      · refine g_iconst hC dX4_hasCells_30 (v := nI 0) (by decide) ?_
        have z9 : ¬ hcs u v n := by
          unfold hcs
          simp only [← Int32.not_lt]
          simp only [Int32.not_lt] at *
          simp only [Int32.not_lt, Int32.not_le, ← Int32.not_lt] at *
          simp_all
        exact g_zret hC hR rfl dX4_hasCells_31 ⟨by rw [bI_f z9]; rfl, rfl, rfl⟩
      · refine g_iload_n hC dX4_hasCells_16 rfl 1 rfl ?_
        refine g_aload_n hC dX4_hasCells_17 rfl 0 rfl (Or.inr ⟨_, rfl⟩) ?_
        refine g_A (As := []) (st := [.int u]) hC 0 dX4_hasCells_18 rfl ha.1.1 ha.1.2 gX4_hasCells_X5_cellCount_u7X5 rfl (gKK_D ⟨"KeptTerms$Row", "cellCount", "()I"⟩ (by decide)) (by decide +kernel) ⟨Nat.le_of_ble_eq_true rfl, Nat.le_of_ble_eq_true rfl⟩ rfl (Nat.le_of_ble_eq_true rfl) ⟨Nat.le_of_ble_eq_true rfl, Nat.le_of_ble_eq_true rfl⟩ (c2 := 0) (s2 := 0) rfl rfl (x_5_cellCount a c n g ha) ?_
        refine g_iload_n hC dX4_hasCells_21 rfl 2 rfl ?_
        refine g_isub hC dX4_hasCells_22 ?_
        refine g_icmp_gt (x := u) (y := (nI n) - v) (tgt := 30) hC dX4_hasCells_23 (by decide) (fun h23 => ?_) (fun h23 => ?_)
        · refine g_iconst hC dX4_hasCells_30 (v := nI 0) (by decide) ?_
          have z9 : ¬ hcs u v n := by
            unfold hcs
            simp only [← Int32.not_lt]
            simp only [Int32.not_lt] at *
            simp only [Int32.not_lt, Int32.not_le, ← Int32.not_lt] at *
            simp_all
          exact g_zret hC hR rfl dX4_hasCells_31 ⟨by rw [bI_f z9]; rfl, rfl, rfl⟩
        · refine g_iconst hC dX4_hasCells_26 (v := nI 1) (by decide) ?_
          refine g_goto (tgt := 31) hC dX4_hasCells_27 (by decide) ?_
          have z9 : hcs u v n := by
            unfold hcs
            simp only [← Int32.not_lt]
            simp only [Int32.not_lt] at *
            simp only [Int32.not_lt, Int32.not_le, ← Int32.not_lt] at *
            simp_all
          exact g_zret hC hR rfl dX4_hasCells_31 ⟨by rw [bI_t z9]; rfl, rfl, rfl⟩
set_option maxRecDepth 20000 in
set_option maxHeartbeats 4000000 in
theorem x_compare (u v : Nat) (hu : u < 2 ^ 30) (hv : v < 2 ^ 30) : gCt l D vwCl (gKK D cy adK adV) yJ6_compare_7cf53 wsJ6_compare_7cf53 { frames := 0, cells := 0, slots := 0, locals := 0 } [.int (nI u), .int (nI v)] L f (pE (some (.int (sgn (nI u - nI v)))) L f) := by
  refine gCt.of gKK_ok (by decide) rfl rfl (fun X hC hR hnm => ?_)
  have hC : gC X l _ D vwCl (cyT cy) (gKK D cy adK adV) cJ6_compare_7cf53 2 wsJ6_compare_7cf53 RJ6 := hC
  show gW X vwCl 2 L f 0 0 0 [(0, .int (nI u)), (1, .int (nI v))] []
  refine g_iload_n hC dJ6_compare_7cf53_0 rfl 0 rfl ?_
  refine g_iload_n hC dJ6_compare_7cf53_1 rfl 1 rfl ?_
  refine g_icmpN_ge (a := u) (b := v) (tgt := 9) hC dJ6_compare_7cf53_2 (by decide) (by omega) (by omega) (fun h2 => ?_) (fun h2 => ?_)
  · refine g_iload_n hC dJ6_compare_7cf53_9 rfl 0 rfl ?_
    refine g_iload_n hC dJ6_compare_7cf53_10 rfl 1 rfl ?_
    refine g_icmpN_ne (a := u) (b := v) (tgt := 18) hC dJ6_compare_7cf53_11 (by decide) (by omega) (by omega) (fun h11 => ?_) (fun h11 => ?_)
    · refine g_iconst hC dJ6_compare_7cf53_18 (v := nI 1) (by decide) ?_
      have z9 : sgn (nI u - nI v) = 1 := by
        have e1 := pk_sub_toInt (a := u) (b := v) (by omega) (by omega)
        unfold sgn
        simp only [Int32.lt_iff_toInt_lt, Int32.toInt_zero, e1]
        (repeat' split) <;> first | rfl | (exfalso; omega)
      exact g_iret hC hR dJ6_compare_7cf53_19 ⟨by rw [z9] <;> rfl, rfl, rfl⟩
    · refine g_iconst hC dJ6_compare_7cf53_14 (v := nI 0) (by decide) ?_
      refine g_goto (tgt := 19) hC dJ6_compare_7cf53_15 (by decide) ?_
      have z9 : sgn (nI u - nI v) = 0 := by
        have e1 := pk_sub_toInt (a := u) (b := v) (by omega) (by omega)
        unfold sgn
        simp only [Int32.lt_iff_toInt_lt, Int32.toInt_zero, e1]
        (repeat' split) <;> first | rfl | (exfalso; omega)
      exact g_iret hC hR dJ6_compare_7cf53_19 ⟨by rw [z9] <;> rfl, rfl, rfl⟩
  · refine g_iconst hC dJ6_compare_7cf53_5 (v := (-1)) (by decide) ?_
    refine g_goto (tgt := 19) hC dJ6_compare_7cf53_6 (by decide) ?_
    have z9 : sgn (nI u - nI v) = -1 := by
      have e1 := pk_sub_toInt (a := u) (b := v) (by omega) (by omega)
      unfold sgn
      simp only [Int32.lt_iff_toInt_lt, Int32.toInt_zero, e1]
      (repeat' split) <;> first | rfl | (exfalso; omega)
    exact g_iret hC hR dJ6_compare_7cf53_19 ⟨by rw [z9] <;> rfl, rfl, rfl⟩
theorem up_up {α : Type} {f : Nat → α} {a : Nat} {e1 e2 : α} (z : Nat) : va_up (va_up f a e1) a e2 z = va_up f a e2 z := by
  unfold va_up; split <;> rfl
set_option maxRecDepth 20000 in
set_option maxHeartbeats 4000000 in
theorem x_fill (a n : Nat) (g : Nat → Int32) (v : Int32) (ha : a ∈ L) (hf : f a = iA (cy 2) n g) (hn : n < 2 ^ 30) : gCt l D vwCl (gKK D cy adK adV) yJ7_fill_53178 wsJ7_fill_53178 { frames := 0, cells := 0, slots := 0, locals := 0 } [.ref a, .int v] L f (pE none L (va_up f a (iA (cy 2) n (fun i => if i < n then v else g i)))) := by
  refine gCt.of gKK_ok (by decide) rfl rfl (fun X hC hR hnm => ?_)
  have hC : gC X l _ D vwCl (cyT cy) (gKK D cy adK adV) cJ7_fill_53178 4 wsJ7_fill_53178 RJ7 := hC
  show gW X vwCl 4 L f 0 0 0 [(0, .ref a), (1, .int v)] []
  refine g_iconst hC dJ7_fill_53178_0 (v := nI 0) (by decide) ?_
  refine g_istore_n (lv' := [(2, .int (nI 0)), (0, .ref a), (1, .int v)]) hC dJ7_fill_53178_1 rfl (by decide) rfl ?_
  refine g_aload_n hC dJ7_fill_53178_2 rfl 1 rfl (Or.inr ⟨_, rfl⟩) ?_
  refine g_alen hC 2 rfl ha hf dJ7_fill_53178_3 ?_
  refine g_istore_n (lv' := [(3, .int (nI n)), (2, .int (nI 0)), (0, .ref a), (1, .int v)]) hC dJ7_fill_53178_4 rfl (by decide) rfl ?_
  have lp : ∀ (m : Nat) (k : Nat), n - k < m → (k ≤ n) → gW X vwCl 4 L (va_up f a (iA (cy 2) n (fun i => if i < k then v else g i))) 0 0 5 [(2, .int (nI k)), (3, .int (nI n)), (0, .ref a), (1, .int v)] [] := by
    intro m
    induction m with
    | zero => intros; omega
    | succ m ih =>
      intro k hm9 hk9
      refine g_iload_n hC dJ7_fill_53178_5 rfl 0 rfl ?_
      refine g_iload_n hC dJ7_fill_53178_6 rfl 1 rfl ?_
      refine g_icmpN_ge (a := k) (b := n) (tgt := 20) hC dJ7_fill_53178_7 (by decide) (by omega) (by omega) (fun h7 => ?_) (fun h7 => ?_)
      · obtain rfl : k = n := by omega
        exact g_vret hC hR dJ7_fill_53178_20 ⟨rfl, rfl, rfl⟩
      · refine g_aload_n hC dJ7_fill_53178_10 rfl 2 rfl (Or.inr ⟨_, rfl⟩) ?_
        refine g_iload_n hC dJ7_fill_53178_11 rfl 0 rfl ?_
        refine g_iload_n hC dJ7_fill_53178_12 rfl 3 rfl ?_
        refine g_iast hC 2 rfl ha (va_up_self _ _ _) (k) rfl (by omega) (show n < 2 ^ 31 by omega) dJ7_fill_53178_13 ?_
        refine g_world rfl (f' := va_up f a (iA (cy 2) n (fun i => if i < (k + 1) then v else g i))) (fun z => ?_) ?_
        · rw [up_up]; congr 5; funext i9; show (if i9 = k then v else (if i9 < k then v else g i9)) = (if i9 < k + 1 then v else g i9); by_cases e1 : i9 = k
          · rw [if_pos e1, if_pos (by omega)]
          · rw [if_neg e1]; by_cases e2 : i9 < k
            · rw [if_pos e2, if_pos (by omega)]
            · rw [if_neg e2, if_neg (by omega)]
        refine g_iincN (n := 1) (a := k) (lv' := [(2, .int (nI (k + 1))), (3, .int (nI n)), (0, .ref a), (1, .int v)]) hC dJ7_fill_53178_14 0 rfl (by decide) rfl ?_
        refine g_goto (tgt := 5) hC dJ7_fill_53178_17 (by decide) ?_
        exact ih (k + 1) (by omega) (by omega)
  refine g_lv (lv' := [(2, .int (nI 0)), (3, .int (nI n)), (0, .ref a), (1, .int v)]) [1, 0, 2, 3] rfl ?_
  refine g_world rfl (f' := va_up f a (iA (cy 2) n (fun i => if i < 0 then v else g i))) (fun z => ?_) ?_
  · by_cases e : z = a
    · subst e; rw [va_up_self, hf]; rfl
    · rw [va_up_ne _ _ e]
  exact lp (n + 1) 0 (by omega) (by omega)
end X4
