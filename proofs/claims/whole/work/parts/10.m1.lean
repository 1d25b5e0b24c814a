section M1
variable {l : Launch} {D : va_G} {cy : Nat → ClassId} {K : gKt} {o : Nat} {ad : Nat → Nat} {S : aS}
set_option maxRecDepth 20000 in
set_option maxHeartbeats 4000000 in
theorem c_in (hk : gKok D vwCl (cyT cy) K) {L : List Nat} {f : Nat → va_E} (v lo hi : Int32) : gCt l D vwCl K yX10_in wsX10_in { frames := 0, cells := 0, slots := 0, locals := 0 } [.int v, .int lo, .int hi] L f (pE (some (.int (bI (lo ≤ v ∧ v ≤ hi)))) L f) := by
  refine gCt.of hk (by decide) rfl rfl (fun X hC hR hnm => ?_)
  have hC : gC X l _ D vwCl (cyT cy) K cX10_in 3 wsX10_in RX10 := hC
  show gW X vwCl 3 L f 0 0 0 [(0, .int v), (1, .int lo), (2, .int hi)] []
  refine g_iload_n hC dX10_in_0 rfl 0 rfl ?_
  refine g_iload_n hC dX10_in_1 rfl 1 rfl ?_
  refine g_icmp_lt (tgt := 14) hC dX10_in_2 (by decide) (fun h1 => ?_) (fun h1 => ?_)
  · refine g_iconst hC dX10_in_14 (v := nI 0) (by decide) ?_
    exact g_zret hC hR rfl dX10_in_15 ⟨by rw [bI_f (fun q => by have := q.1; rw [Int32.le_iff_toInt_le] at this; rw [Int32.lt_iff_toInt_lt] at h1; omega)]; rfl, rfl, rfl⟩
  · refine g_iload_n hC dX10_in_5 rfl 0 rfl ?_
    refine g_iload_n hC dX10_in_6 rfl 2 rfl ?_
    refine g_icmp_gt (tgt := 14) hC dX10_in_7 (by decide) (fun h2 => ?_) (fun h2 => ?_)
    · refine g_iconst hC dX10_in_14 (v := nI 0) (by decide) ?_
      exact g_zret hC hR rfl dX10_in_15 ⟨by rw [bI_f (fun q => by have := q.2; rw [Int32.le_iff_toInt_le] at this; rw [Int32.lt_iff_toInt_lt] at h2; omega)]; rfl, rfl, rfl⟩
    · refine g_iconst hC dX10_in_10 (v := nI 1) (by decide) ?_
      refine g_goto (tgt := 15) hC dX10_in_11 (by decide) ?_
      exact g_zret hC hR rfl dX10_in_15 ⟨by rw [bI_t ⟨by rw [Int32.le_iff_toInt_le]; rw [Int32.lt_iff_toInt_lt] at h1; omega, by rw [Int32.le_iff_toInt_le]; rw [Int32.lt_iff_toInt_lt] at h2; omega⟩]; rfl, rfl, rfl⟩
abbrev isP (p : Int32) : Prop := 0 ≤ p ∧ p ≤ 9
set_option maxRecDepth 20000 in
set_option maxHeartbeats 4000000 in
theorem c_isPlace (hk : gKok D vwCl (cyT cy) K) {L : List Nat} {f : Nat → va_E} (p : Int32) : gCt l D vwCl K yX10_isPlace wsX10_isPlace { frames := 1, cells := 0, slots := 0, locals := 22 } [.int p] L f (pE (some (.int (bI (isP p)))) L f) := by
  refine gCt.of hk (by decide) rfl rfl (fun X hC hR hnm => ?_)
  have hC : gC X l _ D vwCl (cyT cy) K cX10_isPlace 1 wsX10_isPlace RX10 := hC
  show gW X vwCl 1 L f 0 0 0 [(0, .int p)] []
  refine g_iload_n hC dX10_isPlace_0 rfl 0 rfl ?_
  refine g_iconst hC dX10_isPlace_1 (v := nI 0) (by decide) ?_
  refine g_bipush hC dX10_isPlace_2 (v := nI 9) (by decide) ?_
  refine g_S (As := [.int p, .int (nI 0), .int (nI 9)]) (st := []) hC 3 dX10_isPlace_4 gX10_isPlace_X10_in rfl (by decide +kernel) ⟨Nat.le_of_ble_eq_true rfl, Nat.le_of_ble_eq_true rfl⟩ rfl (by decide) ⟨Nat.le_of_ble_eq_true rfl, Nat.le_of_ble_eq_true rfl⟩ (c2 := 0) (s2 := 0) rfl rfl (c_in hk p (nI 0) (nI 9)) ?_
  exact g_zret hC hR bI_nar dX10_isPlace_7 ⟨rfl, rfl, rfl⟩
def aWr (S : aS) (k base len : Nat) (g : Nat → Int32) : aS := (S.1, S.2.1, va_up S.2.2 k (fun j => if base ≤ j ∧ j < base + len then g (j - base) else S.2.2 k j))
theorem aWr_0 {S : aS} {k base : Nat} {g : Nat → Int32} : aWr S k base 0 g = S := by
  unfold aWr
  have : va_up S.2.2 k (fun j => if base ≤ j ∧ j < base + 0 then g (j - base) else S.2.2 k j) = S.2.2 := by
    funext i
    by_cases hi : i = k
    · subst hi; rw [va_up_self]; funext j; rw [if_neg (by omega)]
    · rw [va_up_ne _ _ hi]
  rw [this]
theorem aWr_s {S : aS} {k base i : Nat} {g : Nat → Int32} : aW (aWr S k base i g) k (base + i) (g i) = aWr S k base (i + 1) g := by
  unfold aWr aW
  congr 2
  funext z
  by_cases hz : z = k
  · subst hz
    rw [va_up_self]
    dsimp only
    rw [va_up_self, va_up_self]
    funext j
    by_cases hj : j = base + i
    · subst hj; rw [va_up_self, if_pos (by omega)]; congr 1; omega
    · rw [va_up_ne _ _ hj]
      by_cases hb : base ≤ j ∧ j < base + i
      · rw [if_pos hb, if_pos (by omega)]
      · rw [if_neg hb, if_neg (by omega)]
  · rw [va_up_ne _ _ hz]
    dsimp only
    rw [va_up_ne _ _ hz, va_up_ne _ _ hz]
def newB (S : aS) (n : Nat) : aS := aSc (aWr (aN S 5 (S.1 4) n) 6 (16 * S.1 4) 16 (fun _ => 0)) 4 (S.1 4 + 1)
set_option maxRecDepth 20000 in
set_option maxHeartbeats 4000000 in
theorem c_newBytes (hk : gKok D vwCl (cyT cy) K) (hm : mOk o ad) (n : Nat) (hb : S.1 4 < 40000) : gCt l D vwCl K yX10_newBytes wsX10_newBytes { frames := 0, cells := 0, slots := 0, locals := 0 } [.ref o, .int (nI n)] (mL o ad) (mW o ad cy S) (pE (some (.int (nI (S.1 4)))) (mL o ad) (mW o ad cy (newB S n))) := by
  refine gCt.of hk (by decide) rfl rfl (fun X hC hR hnm => ?_)
  have hC : gC X l _ D vwCl (cyT cy) K cX10_newBytes 3 wsX10_newBytes RX10 := hC
  have hin : ∀ w ∈ wsX100, w ∈ wsX10_newBytes := by decide +kernel
  show gW X vwCl 3 (mL o ad) (mW o ad cy S) 0 0 0 [(0, .ref o), (1, .int (nI n))] []
  refine g_aload_n hC dX10_newBytes_0 rfl 0 rfl (Or.inr ⟨_, rfl⟩) ?_
  refine m_get_5 hC hin (by decide +kernel) dX10_newBytes_1 ?_
  refine g_aload_n hC dX10_newBytes_4 rfl 0 rfl (Or.inr ⟨_, rfl⟩) ?_
  refine m_get_4 hC hin (by decide +kernel) dX10_newBytes_5 ?_
  refine g_iload_n hC dX10_newBytes_8 rfl 1 rfl ?_
  refine m_astN (k := 5) (j := S.1 4) (x := n) hC hm (by decide) rfl (fun _ => rfl) rfl dX10_newBytes_9 (show _ < 40000 from (by omega)) ?_
  refine g_iconst hC dX10_newBytes_10 (v := nI 0) (by decide) ?_
  refine g_istore_n (lv' := [(2, .int (nI 0)), (0, .ref o), (1, .int (nI n))]) hC dX10_newBytes_11 rfl (by decide) rfl ?_
  rw [← aWr_0 (S := aN S 5 (S.1 4) n) (k := 6) (base := 16 * S.1 4) (g := fun _ => 0)]
  suffices lp : ∀ m i, 16 - i < m → i ≤ 16 → gW X vwCl 3 (mL o ad) (mW o ad cy (aWr (aN S 5 (S.1 4) n) 6 (16 * S.1 4) i (fun _ => 0))) 0 0 12 [(2, .int (nI i)), (0, .ref o), (1, .int (nI n))] [] from lp 17 0 (by omega) (by omega)
  intro m
  induction m with
  | zero => intro i h; omega
  | succ m ih =>
    intro i hi hi2
    refine g_iload_n hC dX10_newBytes_12 rfl 0 rfl ?_
    refine g_bipush hC dX10_newBytes_13 (v := nI 16) (by decide) ?_
    refine g_icmpN_ge (a := i) (b := 16) (tgt := 39) hC dX10_newBytes_15 (by decide) (by omega) (by omega) (fun hc => ?_) (fun hc => ?_)
    · obtain rfl : i = 16 := by omega
      refine g_aload_n hC dX10_newBytes_39 rfl 1 rfl (Or.inr ⟨_, rfl⟩) ?_
      refine g_dup hC dX10_newBytes_40 rfl ?_
      refine m_get_4 hC hin (by decide +kernel) dX10_newBytes_41 ?_
      refine g_iconst hC dX10_newBytes_44 (v := nI 1) (by decide) ?_
      refine g_iaddN (a := S.1 4) (b := 1) hC dX10_newBytes_45 ?_
      refine m_put_4 (x := (S.1 4) + 1) hC hin (by decide +kernel) dX10_newBytes_46 ?_
      refine g_aload_n hC dX10_newBytes_49 rfl 1 rfl (Or.inr ⟨_, rfl⟩) ?_
      refine m_get_4 hC hin (by decide +kernel) dX10_newBytes_50 ?_
      refine g_iconst hC dX10_newBytes_53 (v := nI 1) (by decide) ?_
      refine g_isubN (a := (S.1 4) + 1) (b := 1) hC (by omega) dX10_newBytes_54 ?_
      exact g_iret hC hR dX10_newBytes_55 ⟨rfl, rfl, rfl⟩
    · refine g_aload_n hC dX10_newBytes_18 rfl 1 rfl (Or.inr ⟨_, rfl⟩) ?_
      refine m_get_6 hC hin (by decide +kernel) dX10_newBytes_19 ?_
      refine g_bipush hC dX10_newBytes_22 (v := nI 16) (by decide) ?_
      refine g_aload_n hC dX10_newBytes_24 rfl 1 rfl (Or.inr ⟨_, rfl⟩) ?_
      refine m_get_4 hC hin (by decide +kernel) dX10_newBytes_25 ?_
      refine g_imulN (a := 16) (b := S.1 4) hC dX10_newBytes_28 ?_
      refine g_iload_n hC dX10_newBytes_29 rfl 0 rfl ?_
      refine g_iaddN (a := 16 * (S.1 4)) (b := i) hC dX10_newBytes_30 ?_
      refine g_iconst hC dX10_newBytes_31 (v := nI 0) (by decide) ?_
      refine m_astW (k := 6) (j := (16 * (S.1 4)) + i) (x := nI 0) hC hm (by decide) rfl (fun _ => rfl) rfl dX10_newBytes_32 (show _ < 640000 from (by omega)) ?_
      refine g_iincN (n := 1) (a := i) (lv' := [(2, .int (nI (i + 1))), (0, .ref o), (1, .int (nI n))]) hC dX10_newBytes_33 0 rfl (by decide) rfl ?_
      refine g_goto (tgt := 12) hC dX10_newBytes_36 (by decide) ?_
      have e0 : aW (aWr (aN S 5 (S.1 4) n) 6 (16 * S.1 4) i (fun _ => 0)) 6 (16 * S.1 4 + i) (nI 0) = aWr (aN S 5 (S.1 4) n) 6 (16 * S.1 4) (i + 1) (fun _ => 0) := aWr_s
      rw [e0]
      exact ih (i + 1) (by omega) (by omega)
end M1
