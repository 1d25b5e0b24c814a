theorem inN_iff {a lo hi : Nat} (ha : a < 2 ^ 31) (hlo : lo < 2 ^ 31) (hhi : hi < 2 ^ 31) : (nI lo ≤ nI a ∧ nI a ≤ nI hi) ↔ (lo ≤ a ∧ a ≤ hi) := ⟨fun q => ⟨(nI_leI hlo ha).mp q.1, (nI_leI ha hhi).mp q.2⟩, fun q => ⟨(nI_leI hlo ha).mpr q.1, (nI_leI ha hhi).mpr q.2⟩⟩
section M2
variable {l : Launch} {D : va_G} {cy : Nat → ClassId} {K : gKt} {o : Nat} {ad : Nat → Nat} {S : aS}
set_option maxRecDepth 20000 in
set_option maxHeartbeats 4000000 in
theorem c_fails (hk : gKok D vwCl (cyT cy) K) (hm : mOk o ad) (f : Nat) : gCt l D vwCl K yX10_fails wsX10_fails { frames := 0, cells := 0, slots := 0, locals := 0 } [.ref o, .int (nI f)] (mL o ad) (mW o ad cy S) (pE (some (.int (fA f))) (mL o ad) (mW o ad cy (aSc S 1 f))) := by
  refine gCt.of hk (by decide) rfl rfl (fun X hC hR hnm => ?_)
  have hC : gC X l _ D vwCl (cyT cy) K cX10_fails 2 wsX10_fails RX10 := hC
  have hin : ∀ w ∈ wsX100, w ∈ wsX10_fails := by decide +kernel
  show gW X vwCl 2 (mL o ad) (mW o ad cy S) 0 0 0 [(0, .ref o), (1, .int (nI f))] []
  refine g_aload_n hC dX10_fails_0 rfl 0 rfl (Or.inr ⟨_, rfl⟩) ?_
  refine g_iload_n hC dX10_fails_1 rfl 1 rfl ?_
  refine m_put_1 (x := f) hC hin (by decide +kernel) dX10_fails_2 ?_
  refine g_bipush hC dX10_fails_5 (v := (-10)) (by decide) ?_
  refine g_iload_n hC dX10_fails_7 rfl 1 rfl ?_
  refine g_isub hC dX10_fails_8 ?_
  exact g_iret hC hR dX10_fails_9 ⟨rfl, rfl, rfl⟩
set_option maxRecDepth 20000 in
set_option maxHeartbeats 4000000 in
theorem c_failsLong (hk : gKok D vwCl (cyT cy) K) (hm : mOk o ad) (f : Nat) : gCt l D vwCl K yX10_failsLong wsX10_failsLong { frames := 0, cells := 0, slots := 0, locals := 0 } [.ref o, .int (nI f)] (mL o ad) (mW o ad cy S) (pE (some (.long noL)) (mL o ad) (mW o ad cy (aSc S 1 f))) := by
  refine gCt.of hk (by decide) rfl rfl (fun X hC hR hnm => ?_)
  have hC : gC X l _ D vwCl (cyT cy) K cX10_failsLong 2 wsX10_failsLong RX10 := hC
  have hin : ∀ w ∈ wsX100, w ∈ wsX10_failsLong := by decide +kernel
  show gW X vwCl 2 (mL o ad) (mW o ad cy S) 0 0 0 [(0, .ref o), (1, .int (nI f))] []
  refine g_aload_n hC dX10_failsLong_0 rfl 0 rfl (Or.inr ⟨_, rfl⟩) ?_
  refine g_iload_n hC dX10_failsLong_1 rfl 1 rfl ?_
  refine m_put_1 (x := f) hC hin (by decide +kernel) dX10_failsLong_2 ?_
  refine g_ldc2 (v := -9223372036854775808) hC (by decide +kernel) dX10_failsLong_5 ?_
  exact g_lret hC hR dX10_failsLong_8 ⟨rfl, rfl, rfl⟩
set_option maxRecDepth 20000 in
set_option maxHeartbeats 4000000 in
theorem c_hold (hk : gKok D vwCl (cyT cy) K) (hm : mOk o ad) (j k v : Nat) (hj : j < 10) : gCt l D vwCl K yX10_hold wsX10_hold { frames := 0, cells := 0, slots := 0, locals := 0 } [.ref o, .int (nI j), .int (nI k), .int (nI v)] (mL o ad) (mW o ad cy S) (pE none (mL o ad) (mW o ad cy (holdS S j k v))) := by
  refine gCt.of hk (by decide) rfl rfl (fun X hC hR hnm => ?_)
  have hC : gC X l _ D vwCl (cyT cy) K cX10_hold 4 wsX10_hold RX10 := hC
  have hin : ∀ w ∈ wsX100, w ∈ wsX10_hold := by decide +kernel
  show gW X vwCl 4 (mL o ad) (mW o ad cy S) 0 0 0 [(0, .ref o), (1, .int (nI j)), (2, .int (nI k)), (3, .int (nI v))] []
  refine g_aload_n hC dX10_hold_0 rfl 0 rfl (Or.inr ⟨_, rfl⟩) ?_
  refine m_get_2 hC hin (by decide +kernel) dX10_hold_1 ?_
  refine g_iload_n hC dX10_hold_4 rfl 1 rfl ?_
  refine g_iload_n hC dX10_hold_5 rfl 2 rfl ?_
  refine m_astN (k := 2) (j := j) (x := k) hC hm (by decide) rfl (fun _ => rfl) rfl dX10_hold_6 (show _ < 10 from (by omega)) ?_
  refine g_aload_n hC dX10_hold_7 rfl 0 rfl (Or.inr ⟨_, rfl⟩) ?_
  refine m_get_3 hC hin (by decide +kernel) dX10_hold_8 ?_
  refine g_iload_n hC dX10_hold_11 rfl 1 rfl ?_
  refine g_iload_n hC dX10_hold_12 rfl 3 rfl ?_
  refine m_astN (k := 3) (j := j) (x := v) hC hm (by decide) rfl (fun _ => rfl) rfl dX10_hold_13 (show _ < 10 from (by omega)) ?_
  exact g_vret hC hR dX10_hold_14 ⟨rfl, rfl, rfl⟩
set_option maxRecDepth 20000 in
set_option maxHeartbeats 4000000 in
theorem c_thrown (hk : gKok D vwCl (cyT cy) K) (hm : mOk o ad) : gCt l D vwCl K yX10_thrown wsX10_thrown { frames := 0, cells := 0, slots := 0, locals := 0 } [.ref o] (mL o ad) (mW o ad cy S) (pE (some (.int (nI (S.1 0)))) (mL o ad) (mW o ad cy S)) := by
  refine gCt.of hk (by decide) rfl rfl (fun X hC hR hnm => ?_)
  have hC : gC X l _ D vwCl (cyT cy) K cX10_thrown 1 wsX10_thrown RX10 := hC
  have hin : ∀ w ∈ wsX100, w ∈ wsX10_thrown := by decide +kernel
  show gW X vwCl 1 (mL o ad) (mW o ad cy S) 0 0 0 [(0, .ref o)] []
  refine g_aload_n hC dX10_thrown_0 rfl 0 rfl (Or.inr ⟨_, rfl⟩) ?_
  refine m_get_0 hC hin (by decide +kernel) dX10_thrown_1 ?_
  exact g_iret hC hR dX10_thrown_4 ⟨rfl, rfl, rfl⟩
set_option maxRecDepth 20000 in
set_option maxHeartbeats 4000000 in
theorem c_isOf (hk : gKok D vwCl (cyT cy) K) (hm : mOk o ad) (j t : Nat) (ht : t < 2147483648) (hj : j < 10) (h5 : kd S j ≤ 5) : gCt l D vwCl K yX10_isOf wsX10_isOf { frames := 0, cells := 0, slots := 0, locals := 0 } [.ref o, .int (nI j), .int (nI t)] (mL o ad) (mW o ad cy S) (pE (some (.int (bI (isO S j t)))) (mL o ad) (mW o ad cy S)) := by
  refine gCt.of hk (by decide) rfl rfl (fun X hC hR hnm => ?_)
  have hC : gC X l _ D vwCl (cyT cy) K cX10_isOf 3 wsX10_isOf RX10 := hC
  have hin : ∀ w ∈ wsX100, w ∈ wsX10_isOf := by decide +kernel
  show gW X vwCl 3 (mL o ad) (mW o ad cy S) 0 0 0 [(0, .ref o), (1, .int (nI j)), (2, .int (nI t))] []
  refine g_iload_n hC dX10_isOf_0 rfl 2 rfl ?_
  refine g_iconst hC dX10_isOf_1 (v := nI 4) (by decide) ?_
  refine g_icmpN_ne (a := t) (b := 4) (tgt := 23) hC dX10_isOf_2 (by decide) (by omega) (by omega) (fun h2 => ?_) (fun h2 => ?_)
  · refine g_aload_n hC dX10_isOf_23 rfl 0 rfl (Or.inr ⟨_, rfl⟩) ?_
    refine m_get_2 hC hin (by decide +kernel) dX10_isOf_24 ?_
    refine g_iload_n hC dX10_isOf_27 rfl 1 rfl ?_
    refine m_aldN (k := 2) (j := j) hC hm (by decide) rfl rfl rfl dX10_isOf_28 (show _ < 10 from (by omega)) ?_
    refine g_iload_n hC dX10_isOf_29 rfl 2 rfl ?_
    refine g_icmpN_ne (a := kd S j) (b := t) (tgt := 37) hC dX10_isOf_30 (by decide) (by omega) (by omega) (fun h30 => ?_) (fun h30 => ?_)
    · refine g_iconst hC dX10_isOf_37 (v := nI 0) (by decide) ?_
      exact g_zret hC hR rfl dX10_isOf_38 ⟨by rw [bI_f (by omega)]; rfl, rfl, rfl⟩
    · refine g_iconst hC dX10_isOf_33 (v := nI 1) (by decide) ?_
      refine g_goto (tgt := 38) hC dX10_isOf_34 (by decide) ?_
      exact g_zret hC hR rfl dX10_isOf_38 ⟨by rw [bI_t (by omega)]; rfl, rfl, rfl⟩
  · refine g_aload_n hC dX10_isOf_5 rfl 0 rfl (Or.inr ⟨_, rfl⟩) ?_
    refine m_get_2 hC hin (by decide +kernel) dX10_isOf_6 ?_
    refine g_iload_n hC dX10_isOf_9 rfl 1 rfl ?_
    refine m_aldN (k := 2) (j := j) hC hm (by decide) rfl rfl rfl dX10_isOf_10 (show _ < 10 from (by omega)) ?_
    refine g_iconst hC dX10_isOf_11 (v := nI 3) (by decide) ?_
    refine g_icmpN_le (a := kd S j) (b := 3) (tgt := 19) hC dX10_isOf_12 (by decide) (by omega) (by omega) (fun h12 => ?_) (fun h12 => ?_)
    · refine g_iconst hC dX10_isOf_19 (v := nI 0) (by decide) ?_
      refine g_goto (tgt := 38) hC dX10_isOf_20 (by decide) ?_
      exact g_zret hC hR rfl dX10_isOf_38 ⟨by rw [bI_f (by omega)]; rfl, rfl, rfl⟩
    · refine g_iconst hC dX10_isOf_15 (v := nI 1) (by decide) ?_
      refine g_goto (tgt := 38) hC dX10_isOf_16 (by decide) ?_
      exact g_zret hC hR rfl dX10_isOf_38 ⟨by rw [bI_t (by omega)]; rfl, rfl, rfl⟩
set_option maxRecDepth 20000 in
set_option maxHeartbeats 4000000 in
theorem c_castFault (hk : gKok D vwCl (cyT cy) K) (hm : mOk o ad) (j t : Nat) (ht : t < 2147483648) (hj : j < 10) (h5 : kd S j ≤ 5) : gCt l D vwCl K yX10_castFault wsX10_castFault { frames := 1, cells := 0, slots := 0, locals := 22 } [.ref o, .int (nI j), .int (nI t)] (mL o ad) (mW o ad cy S) (pE (some (.int (nI (castF S j t)))) (mL o ad) (mW o ad cy S)) := by
  refine gCt.of hk (by decide) rfl rfl (fun X hC hR hnm => ?_)
  have hC : gC X l _ D vwCl (cyT cy) K cX10_castFault 3 wsX10_castFault RX10 := hC
  have hin : ∀ w ∈ wsX100, w ∈ wsX10_castFault := by decide +kernel
  show gW X vwCl 3 (mL o ad) (mW o ad cy S) 0 0 0 [(0, .ref o), (1, .int (nI j)), (2, .int (nI t))] []
  refine g_aload_n hC dX10_castFault_0 rfl 0 rfl (Or.inr ⟨_, rfl⟩) ?_
  refine m_get_2 hC hin (by decide +kernel) dX10_castFault_1 ?_
  refine g_iload_n hC dX10_castFault_4 rfl 1 rfl ?_
  refine m_aldN (k := 2) (j := j) hC hm (by decide) rfl rfl rfl dX10_castFault_5 (show _ < 10 from (by omega)) ?_
  refine g_ifN_ne (a := kd S j) (tgt := 13) hC dX10_castFault_6 (by decide) (by omega) (fun h6 => ?_) (fun h6 => ?_)
  · refine g_aload_n hC dX10_castFault_13 rfl 0 rfl (Or.inr ⟨_, rfl⟩) ?_
    refine g_iload_n hC dX10_castFault_14 rfl 1 rfl ?_
    refine g_iload_n hC dX10_castFault_15 rfl 2 rfl ?_
    refine g_V (As := [.int (nI j), .int (nI t)]) (st := []) hC 2 dX10_castFault_16 rfl mL_o mW_o gX10_castFault_X10_isOf rfl (by decide +kernel) ⟨Nat.le_of_ble_eq_true rfl, Nat.le_of_ble_eq_true rfl⟩ rfl (by decide) ⟨Nat.le_of_ble_eq_true rfl, Nat.le_of_ble_eq_true rfl⟩ (c2 := 0) (s2 := 0) rfl rfl (c_isOf hk hm j t ht hj h5) ?_
    refine g_ifB_eq (tgt := 26) hC dX10_castFault_19 (by decide) (fun h19 => ?_) (fun h19 => ?_)
    · refine g_iconst hC dX10_castFault_26 (v := nI 2) (by decide) ?_
      exact g_iret hC hR dX10_castFault_27 ⟨by unfold castF; (repeat' split) <;> first | rfl | (exfalso; omega) | (exfalso; simp_all; done), rfl, rfl⟩
    · refine g_iconst hC dX10_castFault_22 (v := nI 0) (by decide) ?_
      refine g_goto (tgt := 27) hC dX10_castFault_23 (by decide) ?_
      exact g_iret hC hR dX10_castFault_27 ⟨by unfold castF; (repeat' split) <;> first | rfl | (exfalso; omega) | (exfalso; simp_all; done), rfl, rfl⟩
  · refine g_iconst hC dX10_castFault_9 (v := nI 1) (by decide) ?_
    refine g_goto (tgt := 27) hC dX10_castFault_10 (by decide) ?_
    exact g_iret hC hR dX10_castFault_27 ⟨by unfold castF; (repeat' split) <;> first | rfl | (exfalso; omega) | (exfalso; simp_all; done), rfl, rfl⟩
set_option maxRecDepth 20000 in
set_option maxHeartbeats 4000000 in
theorem c_longOf (hk : gKok D vwCl (cyT cy) K) (hm : mOk o ad) (j : Nat) (hj : j < 10) (h5 : kd S j ≤ 5) (h1 : kd S j = 1 → wh S j < 40000) (h2 : kd S j ≠ 1 → wh S j < 600) : gCt l D vwCl K yX10_longOf wsX10_longOf { frames := 0, cells := 0, slots := 0, locals := 0 } [.ref o, .int (nI j)] (mL o ad) (mW o ad cy S) (pE (some (.int (nI (longS S j)))) (mL o ad) (mW o ad cy S)) := by
  refine gCt.of hk (by decide) rfl rfl (fun X hC hR hnm => ?_)
  have hC : gC X l _ D vwCl (cyT cy) K cX10_longOf 3 wsX10_longOf RX10 := hC
  have hin : ∀ w ∈ wsX100, w ∈ wsX10_longOf := by decide +kernel
  show gW X vwCl 3 (mL o ad) (mW o ad cy S) 0 0 0 [(0, .ref o), (1, .int (nI j))] []
  refine g_aload_n hC dX10_longOf_0 rfl 0 rfl (Or.inr ⟨_, rfl⟩) ?_
  refine m_get_3 hC hin (by decide +kernel) dX10_longOf_1 ?_
  refine g_iload_n hC dX10_longOf_4 rfl 1 rfl ?_
  refine m_aldN (k := 3) (j := j) hC hm (by decide) rfl rfl rfl dX10_longOf_5 (show _ < 10 from (by omega)) ?_
  refine g_istore_n (lv' := [(2, .int (nI (wh S j))), (0, .ref o), (1, .int (nI j))]) hC dX10_longOf_6 rfl (by decide) rfl ?_
  refine g_aload_n hC dX10_longOf_7 rfl 1 rfl (Or.inr ⟨_, rfl⟩) ?_
  refine m_get_2 hC hin (by decide +kernel) dX10_longOf_8 ?_
  refine g_iload_n hC dX10_longOf_11 rfl 2 rfl ?_
  refine m_aldN (k := 2) (j := j) hC hm (by decide) rfl rfl rfl dX10_longOf_12 (show _ < 10 from (by omega)) ?_
  refine g_iconst hC dX10_longOf_13 (v := nI 1) (by decide) ?_
  refine g_icmpN_ne (a := kd S j) (b := 1) (tgt := 26) hC dX10_longOf_14 (by decide) (by omega) (by omega) (fun h14 => ?_) (fun h14 => ?_)
  · refine g_aload_n hC dX10_longOf_26 rfl 1 rfl (Or.inr ⟨_, rfl⟩) ?_
    refine m_get_2 hC hin (by decide +kernel) dX10_longOf_27 ?_
    refine g_iload_n hC dX10_longOf_30 rfl 2 rfl ?_
    refine m_aldN (k := 2) (j := j) hC hm (by decide) rfl rfl rfl dX10_longOf_31 (show _ < 10 from (by omega)) ?_
    refine g_iconst hC dX10_longOf_32 (v := nI 2) (by decide) ?_
    refine g_icmpN_ne (a := kd S j) (b := 2) (tgt := 45) hC dX10_longOf_33 (by decide) (by omega) (by omega) (fun h33 => ?_) (fun h33 => ?_)
    · refine g_aload_n hC dX10_longOf_45 rfl 1 rfl (Or.inr ⟨_, rfl⟩) ?_
      refine m_get_11 hC hin (by decide +kernel) dX10_longOf_46 ?_
      refine g_iload_n hC dX10_longOf_49 rfl 0 rfl ?_
      refine m_aldN (k := 11) (j := wh S j) hC hm (by decide) rfl rfl rfl dX10_longOf_50 (show _ < 600 from (by omega)) ?_
      exact g_iret hC hR dX10_longOf_51 ⟨by unfold longS; (repeat' split) <;> first | rfl | (exfalso; omega) | (exfalso; simp_all; done), rfl, rfl⟩
    · refine g_aload_n hC dX10_longOf_36 rfl 1 rfl (Or.inr ⟨_, rfl⟩) ?_
      refine m_get_8 hC hin (by decide +kernel) dX10_longOf_37 ?_
      refine g_iload_n hC dX10_longOf_40 rfl 0 rfl ?_
      refine m_aldN (k := 8) (j := wh S j) hC hm (by decide) rfl rfl rfl dX10_longOf_41 (show _ < 600 from (by omega)) ?_
      refine g_goto (tgt := 51) hC dX10_longOf_42 (by decide) ?_
      exact g_iret hC hR dX10_longOf_51 ⟨by unfold longS; (repeat' split) <;> first | rfl | (exfalso; omega) | (exfalso; simp_all; done), rfl, rfl⟩
  · refine g_aload_n hC dX10_longOf_17 rfl 1 rfl (Or.inr ⟨_, rfl⟩) ?_
    refine m_get_5 hC hin (by decide +kernel) dX10_longOf_18 ?_
    refine g_iload_n hC dX10_longOf_21 rfl 0 rfl ?_
    refine m_aldN (k := 5) (j := wh S j) hC hm (by decide) rfl rfl rfl dX10_longOf_22 (show _ < 40000 from (by omega)) ?_
    refine g_goto (tgt := 51) hC dX10_longOf_23 (by decide) ?_
    exact g_iret hC hR dX10_longOf_51 ⟨by unfold longS; (repeat' split) <;> first | rfl | (exfalso; omega) | (exfalso; simp_all; done), rfl, rfl⟩
set_option maxRecDepth 20000 in
set_option maxHeartbeats 4000000 in
theorem c_at (hk : gKok D vwCl (cyT cy) K) (hm : mOk o ad) (j i : Nat) (hi : i < 16) (hj : j < 10) (h5 : kd S j ≤ 5) (h1 : kd S j = 1 → wh S j < 40000) (h2 : kd S j ≠ 1 → wh S j < 600) : gCt l D vwCl K yX10_at wsX10_at { frames := 0, cells := 0, slots := 0, locals := 0 } [.ref o, .int (nI j), .int (nI i)] (mL o ad) (mW o ad cy S) (pE (some (.int (atS S j i))) (mL o ad) (mW o ad cy S)) := by
  refine gCt.of hk (by decide) rfl rfl (fun X hC hR hnm => ?_)
  have hC : gC X l _ D vwCl (cyT cy) K cX10_at 4 wsX10_at RX10 := hC
  have hin : ∀ w ∈ wsX100, w ∈ wsX10_at := by decide +kernel
  show gW X vwCl 4 (mL o ad) (mW o ad cy S) 0 0 0 [(0, .ref o), (1, .int (nI j)), (2, .int (nI i))] []
  refine g_bipush hC dX10_at_0 (v := nI 16) (by decide) ?_
  refine g_aload_n hC dX10_at_2 rfl 0 rfl (Or.inr ⟨_, rfl⟩) ?_
  refine m_get_3 hC hin (by decide +kernel) dX10_at_3 ?_
  refine g_iload_n hC dX10_at_6 rfl 1 rfl ?_
  refine m_aldN (k := 3) (j := j) hC hm (by decide) rfl rfl rfl dX10_at_7 (show _ < 10 from (by omega)) ?_
  refine g_imulN (a := 16) (b := wh S j) hC dX10_at_8 ?_
  refine g_iload_n hC dX10_at_9 rfl 2 rfl ?_
  refine g_iaddN (a := 16 * (wh S j)) (b := i) hC dX10_at_10 ?_
  refine g_istore_n (lv' := [(3, .int (nI ((16 * (wh S j)) + i))), (0, .ref o), (1, .int (nI j)), (2, .int (nI i))]) hC dX10_at_11 rfl (by decide) rfl ?_
  refine g_aload_n hC dX10_at_12 rfl 1 rfl (Or.inr ⟨_, rfl⟩) ?_
  refine m_get_2 hC hin (by decide +kernel) dX10_at_13 ?_
  refine g_iload_n hC dX10_at_16 rfl 2 rfl ?_
  refine m_aldN (k := 2) (j := j) hC hm (by decide) rfl rfl rfl dX10_at_17 (show _ < 10 from (by omega)) ?_
  refine g_iconst hC dX10_at_18 (v := nI 1) (by decide) ?_
  refine g_icmpN_ne (a := kd S j) (b := 1) (tgt := 31) hC dX10_at_19 (by decide) (by omega) (by omega) (fun h19 => ?_) (fun h19 => ?_)
  · refine g_aload_n hC dX10_at_31 rfl 1 rfl (Or.inr ⟨_, rfl⟩) ?_
    refine m_get_2 hC hin (by decide +kernel) dX10_at_32 ?_
    refine g_iload_n hC dX10_at_35 rfl 2 rfl ?_
    refine m_aldN (k := 2) (j := j) hC hm (by decide) rfl rfl rfl dX10_at_36 (show _ < 10 from (by omega)) ?_
    refine g_iconst hC dX10_at_37 (v := nI 2) (by decide) ?_
    refine g_icmpN_ne (a := kd S j) (b := 2) (tgt := 50) hC dX10_at_38 (by decide) (by omega) (by omega) (fun h38 => ?_) (fun h38 => ?_)
    · refine g_aload_n hC dX10_at_50 rfl 1 rfl (Or.inr ⟨_, rfl⟩) ?_
      refine m_get_12 hC hin (by decide +kernel) dX10_at_51 ?_
      refine g_iload_n hC dX10_at_54 rfl 0 rfl ?_
      refine m_aldN (k := 12) (j := (16 * (wh S j)) + i) hC hm (by decide) rfl rfl rfl dX10_at_55 (show _ < 9600 from (by omega)) ?_
      exact g_iret hC hR dX10_at_56 ⟨by unfold atS; (repeat' split) <;> first | rfl | (exfalso; omega) | (exfalso; simp_all; done), rfl, rfl⟩
    · refine g_aload_n hC dX10_at_41 rfl 1 rfl (Or.inr ⟨_, rfl⟩) ?_
      refine m_get_9 hC hin (by decide +kernel) dX10_at_42 ?_
      refine g_iload_n hC dX10_at_45 rfl 0 rfl ?_
      refine m_aldW (k := 9) (j := (16 * (wh S j)) + i) hC hm (by decide) rfl rfl rfl dX10_at_46 (show _ < 9600 from (by omega)) ?_
      refine g_goto (tgt := 56) hC dX10_at_47 (by decide) ?_
      exact g_iret hC hR dX10_at_56 ⟨by unfold atS; (repeat' split) <;> first | rfl | (exfalso; omega) | (exfalso; simp_all; done), rfl, rfl⟩
  · refine g_aload_n hC dX10_at_22 rfl 1 rfl (Or.inr ⟨_, rfl⟩) ?_
    refine m_get_6 hC hin (by decide +kernel) dX10_at_23 ?_
    refine g_iload_n hC dX10_at_26 rfl 0 rfl ?_
    refine m_aldW (k := 6) (j := (16 * (wh S j)) + i) hC hm (by decide) rfl rfl rfl dX10_at_27 (show _ < 640000 from (by omega)) ?_
    refine g_goto (tgt := 56) hC dX10_at_28 (by decide) ?_
    exact g_iret hC hR dX10_at_56 ⟨by unfold atS; (repeat' split) <;> first | rfl | (exfalso; omega) | (exfalso; simp_all; done), rfl, rfl⟩
set_option maxRecDepth 20000 in
set_option maxHeartbeats 4000000 in
theorem c_hasContent (hk : gKok D vwCl (cyT cy) K) (hm : mOk o ad) (j : Nat) (hj : j < 10) (h5 : kd S j ≤ 5) : gCt l D vwCl K yX10_hasContent wsX10_hasContent { frames := 1, cells := 0, slots := 0, locals := 22 } [.ref o, .int (nI j)] (mL o ad) (mW o ad cy S) (pE (some (.int (bI (1 ≤ kd S j ∧ kd S j ≤ 2)))) (mL o ad) (mW o ad cy S)) := by
  refine gCt.of hk (by decide) rfl rfl (fun X hC hR hnm => ?_)
  have hC : gC X l _ D vwCl (cyT cy) K cX10_hasContent 2 wsX10_hasContent RX10 := hC
  have hin : ∀ w ∈ wsX100, w ∈ wsX10_hasContent := by decide +kernel
  show gW X vwCl 2 (mL o ad) (mW o ad cy S) 0 0 0 [(0, .ref o), (1, .int (nI j))] []
  refine g_aload_n hC dX10_hasContent_0 rfl 0 rfl (Or.inr ⟨_, rfl⟩) ?_
  refine m_get_2 hC hin (by decide +kernel) dX10_hasContent_1 ?_
  refine g_iload_n hC dX10_hasContent_4 rfl 1 rfl ?_
  refine m_aldN (k := 2) (j := j) hC hm (by decide) rfl rfl rfl dX10_hasContent_5 (show _ < 10 from (by omega)) ?_
  refine g_iconst hC dX10_hasContent_6 (v := nI 1) (by decide) ?_
  refine g_iconst hC dX10_hasContent_7 (v := nI 2) (by decide) ?_
  refine g_S (As := [.int (nI (kd S j)), .int (nI 1), .int (nI 2)]) (st := []) hC 3 dX10_hasContent_8 gX10_hasContent_X10_in rfl (by decide +kernel) ⟨Nat.le_of_ble_eq_true rfl, Nat.le_of_ble_eq_true rfl⟩ rfl (by decide) ⟨Nat.le_of_ble_eq_true rfl, Nat.le_of_ble_eq_true rfl⟩ (c2 := 0) (s2 := 0) rfl rfl (c_in hk _ _ _) ?_
  exact g_zret hC hR bI_nar dX10_hasContent_11 ⟨by rw [bI_congr (inN_iff (by omega) (by decide) (by decide))], rfl, rfl⟩
set_option maxRecDepth 20000 in
set_option maxHeartbeats 4000000 in
theorem c_areLike (hk : gKok D vwCl (cyT cy) K) (hm : mOk o ad) (a b : Nat) (ha : a < 40000) (hb : b < 40000) (hla : S.2.1 5 a ≤ 16) (hlb : S.2.1 5 b ≤ 16) : gCt l D vwCl K yX10_areLike wsX10_areLike { frames := 0, cells := 0, slots := 0, locals := 0 } [.ref o, .int (nI a), .int (nI b)] (mL o ad) (mW o ad cy S) (pE (some (.int (bI (likB S a b)))) (mL o ad) (mW o ad cy S)) := by
  refine gCt.of hk (by decide) rfl rfl (fun X hC hR hnm => ?_)
  have hC : gC X l _ D vwCl (cyT cy) K cX10_areLike 5 wsX10_areLike RX10 := hC
  have hin : ∀ w ∈ wsX100, w ∈ wsX10_areLike := by decide +kernel
  show gW X vwCl 5 (mL o ad) (mW o ad cy S) 0 0 0 [(0, .ref o), (1, .int (nI a)), (2, .int (nI b))] []
  have lp : ∀ (m : Nat) (k c : Nat), 17 - k < m → (k ≤ 16) → ((c = 1 ∧ S.2.1 5 a = S.2.1 5 b ∧ ∀ i, i < k → S.2.2 6 (16 * a + i) = S.2.2 6 (16 * b + i)) ∨ (c = 0 ∧ ¬ likB S a b)) → gW X vwCl 5 (mL o ad) (mW o ad cy S) 0 0 24 [(4, .int (nI k)), (3, .int (nI c)), (0, .ref o), (1, .int (nI a)), (2, .int (nI b))] [] := by
    intro m
    induction m with
    | zero => intros; omega
    | succ m ih =>
      intro k c hm9 hk9 hq
      rcases hq with ⟨rfl, q1, q2⟩ | ⟨rfl, q0⟩
      · refine g_iload_n hC dX10_areLike_24 rfl 1 rfl ?_
        refine g_ifN_eq (a := 1) (tgt := 78) hC dX10_areLike_25 (by decide) (by omega) (fun h25 => ?_) (fun h25 => ?_)
        · exfalso; omega
        · refine g_iload hC dX10_areLike_28 0 rfl ?_
          refine g_aload_n hC dX10_areLike_30 rfl 2 rfl (Or.inr ⟨_, rfl⟩) ?_
          refine m_get_5 hC hin (by decide +kernel) dX10_areLike_31 ?_
          refine g_iload_n hC dX10_areLike_34 rfl 3 rfl ?_
          refine m_aldN (k := 5) (j := a) hC hm (by decide) rfl rfl rfl dX10_areLike_35 (show _ < 40000 from (by omega)) ?_
          refine g_icmpN_ge (a := k) (b := S.2.1 5 a) (tgt := 78) hC dX10_areLike_36 (by decide) (by omega) (by omega) (fun h36 => ?_) (fun h36 => ?_)
          · refine g_iload_n hC dX10_areLike_78 rfl 1 rfl ?_
            exact g_zret hC hR rfl dX10_areLike_79 ⟨by rw [bI_t ⟨q1, fun i hi => q2 i (by omega)⟩]; rfl, rfl, rfl⟩
          · refine g_aload_n hC dX10_areLike_39 rfl 2 rfl (Or.inr ⟨_, rfl⟩) ?_
            refine m_get_6 hC hin (by decide +kernel) dX10_areLike_40 ?_
            refine g_bipush hC dX10_areLike_43 (v := nI 16) (by decide) ?_
            refine g_iload_n hC dX10_areLike_45 rfl 3 rfl ?_
            refine g_imulN (a := 16) (b := a) hC dX10_areLike_46 ?_
            refine g_iload hC dX10_areLike_47 0 rfl ?_
            refine g_iaddN (a := 16 * a) (b := k) hC dX10_areLike_49 ?_
            refine m_aldW (k := 6) (j := (16 * a) + k) hC hm (by decide) rfl rfl rfl dX10_areLike_50 (show _ < 640000 from (by omega)) ?_
            refine g_aload_n hC dX10_areLike_51 rfl 2 rfl (Or.inr ⟨_, rfl⟩) ?_
            refine m_get_6 hC hin (by decide +kernel) dX10_areLike_52 ?_
            refine g_bipush hC dX10_areLike_55 (v := nI 16) (by decide) ?_
            refine g_iload_n hC dX10_areLike_57 rfl 4 rfl ?_
            refine g_imulN (a := 16) (b := b) hC dX10_areLike_58 ?_
            refine g_iload hC dX10_areLike_59 0 rfl ?_
            refine g_iaddN (a := 16 * b) (b := k) hC dX10_areLike_61 ?_
            refine m_aldW (k := 6) (j := (16 * b) + k) hC hm (by decide) rfl rfl rfl dX10_areLike_62 (show _ < 640000 from (by omega)) ?_
            refine g_icmp_ne (tgt := 70) hC dX10_areLike_63 (by decide) (fun h63 => ?_) (fun h63 => ?_)
            · refine g_iconst hC dX10_areLike_70 (v := nI 0) (by decide) ?_
              refine g_istore_n (lv' := [(3, .int (nI 0)), (4, .int (nI k)), (0, .ref o), (1, .int (nI a)), (2, .int (nI b))]) hC dX10_areLike_71 rfl (by decide) rfl ?_
              refine g_iincN (n := 1) (a := k) (lv' := [(4, .int (nI (k + 1))), (3, .int (nI 0)), (0, .ref o), (1, .int (nI a)), (2, .int (nI b))]) hC dX10_areLike_72 1 rfl (by decide) rfl ?_
              refine g_goto (tgt := 24) hC dX10_areLike_75 (by decide) ?_
              exact ih (k + 1) 0 (by omega) (by omega) (Or.inr ⟨rfl, fun q => h63 (q.2 k (by omega))⟩)
            · refine g_iconst hC dX10_areLike_66 (v := nI 1) (by decide) ?_
              refine g_goto (tgt := 71) hC dX10_areLike_67 (by decide) ?_
              refine g_istore_n (lv' := [(3, .int (nI 1)), (4, .int (nI k)), (0, .ref o), (1, .int (nI a)), (2, .int (nI b))]) hC dX10_areLike_71 rfl (by decide) rfl ?_
              refine g_iincN (n := 1) (a := k) (lv' := [(4, .int (nI (k + 1))), (3, .int (nI 1)), (0, .ref o), (1, .int (nI a)), (2, .int (nI b))]) hC dX10_areLike_72 1 rfl (by decide) rfl ?_
              refine g_goto (tgt := 24) hC dX10_areLike_75 (by decide) ?_
              exact ih (k + 1) 1 (by omega) (by omega) (Or.inl ⟨rfl, q1, fun i hi => by rcases Nat.lt_succ_iff_lt_or_eq.mp hi with q | q; exact q2 i q; rw [q]; exact Classical.byContradiction (fun z => by simp_all)⟩)
      · refine g_iload_n hC dX10_areLike_24 rfl 1 rfl ?_
        refine g_ifN_eq (a := 0) (tgt := 78) hC dX10_areLike_25 (by decide) (by omega) (fun h25 => ?_) (fun h25 => ?_)
        · refine g_iload_n hC dX10_areLike_78 rfl 1 rfl ?_
          exact g_zret hC hR rfl dX10_areLike_79 ⟨by rw [bI_f q0]; rfl, rfl, rfl⟩
        · exfalso; omega
  refine g_aload_n hC dX10_areLike_0 rfl 0 rfl (Or.inr ⟨_, rfl⟩) ?_
  refine m_get_5 hC hin (by decide +kernel) dX10_areLike_1 ?_
  refine g_iload_n hC dX10_areLike_4 rfl 1 rfl ?_
  refine m_aldN (k := 5) (j := a) hC hm (by decide) rfl rfl rfl dX10_areLike_5 (show _ < 40000 from (by omega)) ?_
  refine g_aload_n hC dX10_areLike_6 rfl 0 rfl (Or.inr ⟨_, rfl⟩) ?_
  refine m_get_5 hC hin (by decide +kernel) dX10_areLike_7 ?_
  refine g_iload_n hC dX10_areLike_10 rfl 2 rfl ?_
  refine m_aldN (k := 5) (j := b) hC hm (by decide) rfl rfl rfl dX10_areLike_11 (show _ < 40000 from (by omega)) ?_
  refine g_icmpN_ne (a := S.2.1 5 a) (b := S.2.1 5 b) (tgt := 19) hC dX10_areLike_12 (by decide) (by omega) (by omega) (fun h12 => ?_) (fun h12 => ?_)
  · refine g_iconst hC dX10_areLike_19 (v := nI 0) (by decide) ?_
    refine g_istore_n (lv' := [(3, .int (nI 0)), (0, .ref o), (1, .int (nI a)), (2, .int (nI b))]) hC dX10_areLike_20 rfl (by decide) rfl ?_
    refine g_iconst hC dX10_areLike_21 (v := nI 0) (by decide) ?_
    refine g_istore (lv' := [(4, .int (nI 0)), (3, .int (nI 0)), (0, .ref o), (1, .int (nI a)), (2, .int (nI b))]) hC dX10_areLike_22 (by decide) rfl ?_
    exact lp 18 0 0 (by omega) (by omega) (Or.inr ⟨rfl, fun q => h12 q.1⟩)
  · refine g_iconst hC dX10_areLike_15 (v := nI 1) (by decide) ?_
    refine g_goto (tgt := 20) hC dX10_areLike_16 (by decide) ?_
    refine g_istore_n (lv' := [(3, .int (nI 1)), (0, .ref o), (1, .int (nI a)), (2, .int (nI b))]) hC dX10_areLike_20 rfl (by decide) rfl ?_
    refine g_iconst hC dX10_areLike_21 (v := nI 0) (by decide) ?_
    refine g_istore (lv' := [(4, .int (nI 0)), (3, .int (nI 1)), (0, .ref o), (1, .int (nI a)), (2, .int (nI b))]) hC dX10_areLike_22 (by decide) rfl ?_
    exact lp 18 0 1 (by omega) (by omega) (Or.inl ⟨rfl, h12, fun i hi => by omega⟩)
set_option maxRecDepth 20000 in
set_option maxHeartbeats 4000000 in
theorem c_hashOf (hk : gKok D vwCl (cyT cy) K) (hm : mOk o ad) (r : Nat) (hr : r < 40000) (hl : S.2.1 5 r ≤ 16) : gCt l D vwCl K yX10_hashOf wsX10_hashOf { frames := 0, cells := 0, slots := 0, locals := 0 } [.ref o, .int (nI r)] (mL o ad) (mW o ad cy S) (pE (some (.int (hshO S r))) (mL o ad) (mW o ad cy S)) := by
  refine gCt.of hk (by decide) rfl rfl (fun X hC hR hnm => ?_)
  have hC : gC X l _ D vwCl (cyT cy) K cX10_hashOf 4 wsX10_hashOf RX10 := hC
  have hin : ∀ w ∈ wsX100, w ∈ wsX10_hashOf := by decide +kernel
  show gW X vwCl 4 (mL o ad) (mW o ad cy S) 0 0 0 [(0, .ref o), (1, .int (nI r))] []
  have lp : ∀ (m : Nat) (k : Nat), 17 - k < m → (k ≤ S.2.1 5 r) → gW X vwCl 4 (mL o ad) (mW o ad cy S) 0 0 4 [(3, .int (nI k)), (2, .int (hsh (fun k => S.2.2 6 (16 * r + k)) k)), (0, .ref o), (1, .int (nI r))] [] := by
    intro m
    induction m with
    | zero => intros; omega
    | succ m ih =>
      intro k hm9 hk9
      refine g_iload_n hC dX10_hashOf_4 rfl 0 rfl ?_
      refine g_aload_n hC dX10_hashOf_5 rfl 2 rfl (Or.inr ⟨_, rfl⟩) ?_
      refine m_get_5 hC hin (by decide +kernel) dX10_hashOf_6 ?_
      refine g_iload_n hC dX10_hashOf_9 rfl 3 rfl ?_
      refine m_aldN (k := 5) (j := r) hC hm (by decide) rfl rfl rfl dX10_hashOf_10 (show _ < 40000 from (by omega)) ?_
      refine g_icmpN_ge (a := k) (b := S.2.1 5 r) (tgt := 37) hC dX10_hashOf_11 (by decide) (by omega) (by omega) (fun h11 => ?_) (fun h11 => ?_)
      · refine g_iload_n hC dX10_hashOf_37 rfl 1 rfl ?_
        refine g_iload_n hC dX10_hashOf_38 rfl 1 rfl ?_
        refine g_bipush hC dX10_hashOf_39 (v := nI 16) (by decide) ?_
        refine g_iushr hC dX10_hashOf_41 rfl ?_
        refine g_ixor hC dX10_hashOf_42 ?_
        obtain rfl : k = S.2.1 5 r := by omega
        exact g_iret hC hR dX10_hashOf_43 ⟨rfl, rfl, rfl⟩
      · refine g_bipush hC dX10_hashOf_14 (v := nI 31) (by decide) ?_
        refine g_iload_n hC dX10_hashOf_16 rfl 1 rfl ?_
        refine g_imul hC dX10_hashOf_17 ?_
        refine g_aload_n hC dX10_hashOf_18 rfl 2 rfl (Or.inr ⟨_, rfl⟩) ?_
        refine m_get_6 hC hin (by decide +kernel) dX10_hashOf_19 ?_
        refine g_bipush hC dX10_hashOf_22 (v := nI 16) (by decide) ?_
        refine g_iload_n hC dX10_hashOf_24 rfl 3 rfl ?_
        refine g_imulN (a := 16) (b := r) hC dX10_hashOf_25 ?_
        refine g_iload_n hC dX10_hashOf_26 rfl 0 rfl ?_
        refine g_iaddN (a := 16 * r) (b := k) hC dX10_hashOf_27 ?_
        refine m_aldW (k := 6) (j := (16 * r) + k) hC hm (by decide) rfl rfl rfl dX10_hashOf_28 (show _ < 640000 from (by omega)) ?_
        refine g_iadd hC dX10_hashOf_29 ?_
        refine g_istore_n (lv' := [(2, .int (((nI 31) * (hsh (fun k => S.2.2 6 (16 * r + k)) k)) + (S.2.2 6 ((16 * r) + k)))), (3, .int (nI k)), (0, .ref o), (1, .int (nI r))]) hC dX10_hashOf_30 rfl (by decide) rfl ?_
        refine g_iincN (n := 1) (a := k) (lv' := [(3, .int (nI (k + 1))), (2, .int (((nI 31) * (hsh (fun k => S.2.2 6 (16 * r + k)) k)) + (S.2.2 6 ((16 * r) + k)))), (0, .ref o), (1, .int (nI r))]) hC dX10_hashOf_31 1 rfl (by decide) rfl ?_
        refine g_goto (tgt := 4) hC dX10_hashOf_34 (by decide) ?_
        exact ih (k + 1) (by omega) (by omega)
  refine g_iconst hC dX10_hashOf_0 (v := nI 0) (by decide) ?_
  refine g_istore_n (lv' := [(2, .int (nI 0)), (0, .ref o), (1, .int (nI r))]) hC dX10_hashOf_1 rfl (by decide) rfl ?_
  refine g_iconst hC dX10_hashOf_2 (v := nI 0) (by decide) ?_
  refine g_istore_n (lv' := [(3, .int (nI 0)), (2, .int (nI 0)), (0, .ref o), (1, .int (nI r))]) hC dX10_hashOf_3 rfl (by decide) rfl ?_
  exact lp 18 0 (by omega) (by omega)
set_option maxRecDepth 20000 in
set_option maxHeartbeats 4000000 in
theorem c_against (hk : gKok D vwCl (cyT cy) K) (hm : mOk o ad) (a b : Nat) (ha : a < 40000) (hb : b < 40000) (hla : S.2.1 5 a ≤ 16) (hlb : S.2.1 5 b ≤ 16) : gCt l D vwCl K yX10_against wsX10_against { frames := 0, cells := 0, slots := 0, locals := 0 } [.ref o, .int (nI a), .int (nI b)] (mL o ad) (mW o ad cy S) (pE (some (.int (agst S a b))) (mL o ad) (mW o ad cy S)) := by
  refine gCt.of hk (by decide) rfl rfl (fun X hC hR hnm => ?_)
  have hC : gC X l _ D vwCl (cyT cy) K cX10_against 6 wsX10_against RX10 := hC
  have hin : ∀ w ∈ wsX100, w ∈ wsX10_against := by decide +kernel
  show gW X vwCl 6 (mL o ad) (mW o ad cy S) 0 0 0 [(0, .ref o), (1, .int (nI a)), (2, .int (nI b))] []
  generalize hn9 : (if S.2.1 5 a < S.2.1 5 b then S.2.1 5 a else S.2.1 5 b) = n
  have hn8 : n ≤ 16 := by rw [← hn9]; split <;> omega
  have lp : ∀ (m : Nat) (k : Nat), 17 - k < m → (k ≤ n) → (agl (fun k => (S.2.2 6 (16 * a + k) &&& nI 255) - (S.2.2 6 (16 * b + k) &&& nI 255)) (nI (S.2.1 5 a) - nI (S.2.1 5 b)) (n - k) k = agst S a b) → gW X vwCl 6 (mL o ad) (mW o ad cy S) 0 0 34 [(4, .int (nI k)), (3, .int (nI n)), (0, .ref o), (1, .int (nI a)), (2, .int (nI b))] [] := by
    intro m
    induction m with
    | zero => intros; omega
    | succ m ih =>
      intro k hm9 hk9 hag
      refine g_iload hC dX10_against_34 0 rfl ?_
      refine g_iload_n hC dX10_against_36 rfl 1 rfl ?_
      refine g_icmpN_ge (a := k) (b := n) (tgt := 89) hC dX10_against_37 (by decide) (by omega) (by omega) (fun h37 => ?_) (fun h37 => ?_)
      · refine g_aload_n hC dX10_against_89 rfl 2 rfl (Or.inr ⟨_, rfl⟩) ?_
        refine m_get_5 hC hin (by decide +kernel) dX10_against_90 ?_
        refine g_iload_n hC dX10_against_93 rfl 3 rfl ?_
        refine m_aldN (k := 5) (j := a) hC hm (by decide) rfl rfl rfl dX10_against_94 (show _ < 40000 from (by omega)) ?_
        refine g_aload_n hC dX10_against_95 rfl 2 rfl (Or.inr ⟨_, rfl⟩) ?_
        refine m_get_5 hC hin (by decide +kernel) dX10_against_96 ?_
        refine g_iload_n hC dX10_against_99 rfl 4 rfl ?_
        refine m_aldN (k := 5) (j := b) hC hm (by decide) rfl rfl rfl dX10_against_100 (show _ < 40000 from (by omega)) ?_
        refine g_isub hC dX10_against_101 ?_
        exact g_iret hC hR dX10_against_102 ⟨by rw [← hag, show n - k = 0 from by omega]; rfl, rfl, rfl⟩
      · refine g_aload_n hC dX10_against_40 rfl 2 rfl (Or.inr ⟨_, rfl⟩) ?_
        refine m_get_6 hC hin (by decide +kernel) dX10_against_41 ?_
        refine g_bipush hC dX10_against_44 (v := nI 16) (by decide) ?_
        refine g_iload_n hC dX10_against_46 rfl 3 rfl ?_
        refine g_imulN (a := 16) (b := a) hC dX10_against_47 ?_
        refine g_iload hC dX10_against_48 0 rfl ?_
        refine g_iaddN (a := 16 * a) (b := k) hC dX10_against_50 ?_
        refine m_aldW (k := 6) (j := (16 * a) + k) hC hm (by decide) rfl rfl rfl dX10_against_51 (show _ < 640000 from (by omega)) ?_
        refine g_sipush hC dX10_against_52 (v := nI 255) (by decide) ?_
        refine g_iand hC dX10_against_55 ?_
        refine g_aload_n hC dX10_against_56 rfl 2 rfl (Or.inr ⟨_, rfl⟩) ?_
        refine m_get_6 hC hin (by decide +kernel) dX10_against_57 ?_
        refine g_bipush hC dX10_against_60 (v := nI 16) (by decide) ?_
        refine g_iload_n hC dX10_against_62 rfl 4 rfl ?_
        refine g_imulN (a := 16) (b := b) hC dX10_against_63 ?_
        refine g_iload hC dX10_against_64 0 rfl ?_
        refine g_iaddN (a := 16 * b) (b := k) hC dX10_against_66 ?_
        refine m_aldW (k := 6) (j := (16 * b) + k) hC hm (by decide) rfl rfl rfl dX10_against_67 (show _ < 640000 from (by omega)) ?_
        refine g_sipush hC dX10_against_68 (v := nI 255) (by decide) ?_
        refine g_iand hC dX10_against_71 ?_
        refine g_isub hC dX10_against_72 ?_
        refine g_istore (lv' := [(5, .int (((S.2.2 6 ((16 * a) + k)) &&& (nI 255)) - ((S.2.2 6 ((16 * b) + k)) &&& (nI 255)))), (4, .int (nI k)), (3, .int (nI n)), (0, .ref o), (1, .int (nI a)), (2, .int (nI b))]) hC dX10_against_73 (by decide) rfl ?_
        refine g_iload hC dX10_against_75 0 rfl ?_
        refine g_if_eq (tgt := 83) hC dX10_against_77 (by decide) (fun h77 => ?_) (fun h77 => ?_)
        · refine g_iincN (n := 1) (a := k) (lv' := [(4, .int (nI (k + 1))), (5, .int (((S.2.2 6 ((16 * a) + k)) &&& (nI 255)) - ((S.2.2 6 ((16 * b) + k)) &&& (nI 255)))), (3, .int (nI n)), (0, .ref o), (1, .int (nI a)), (2, .int (nI b))]) hC dX10_against_83 1 rfl (by decide) rfl ?_
          refine g_goto (tgt := 34) hC dX10_against_86 (by decide) ?_
          refine g_lv (lv' := [(4, .int (nI (k + 1))), (3, .int (nI n)), (0, .ref o), (1, .int (nI a)), (2, .int (nI b))]) [0, 2, 3, 4, 5] rfl ?_
          exact ih (k + 1) (by omega) (by omega) (by rw [← hag, show n - k = (n - (k + 1)) + 1 from by omega, agl, if_pos h77])
        · refine g_iload hC dX10_against_80 0 rfl ?_
          exact g_iret hC hR dX10_against_82 ⟨by rw [← hag, show n - k = (n - k - 1) + 1 from by omega, agl, if_neg h77], rfl, rfl⟩
  refine g_aload_n hC dX10_against_0 rfl 0 rfl (Or.inr ⟨_, rfl⟩) ?_
  refine m_get_5 hC hin (by decide +kernel) dX10_against_1 ?_
  refine g_iload_n hC dX10_against_4 rfl 1 rfl ?_
  refine m_aldN (k := 5) (j := a) hC hm (by decide) rfl rfl rfl dX10_against_5 (show _ < 40000 from (by omega)) ?_
  refine g_aload_n hC dX10_against_6 rfl 0 rfl (Or.inr ⟨_, rfl⟩) ?_
  refine m_get_5 hC hin (by decide +kernel) dX10_against_7 ?_
  refine g_iload_n hC dX10_against_10 rfl 2 rfl ?_
  refine m_aldN (k := 5) (j := b) hC hm (by decide) rfl rfl rfl dX10_against_11 (show _ < 40000 from (by omega)) ?_
  refine g_icmpN_ge (a := S.2.1 5 a) (b := S.2.1 5 b) (tgt := 24) hC dX10_against_12 (by decide) (by omega) (by omega) (fun h12 => ?_) (fun h12 => ?_)
  · refine g_aload_n hC dX10_against_24 rfl 0 rfl (Or.inr ⟨_, rfl⟩) ?_
    refine m_get_5 hC hin (by decide +kernel) dX10_against_25 ?_
    refine g_iload_n hC dX10_against_28 rfl 2 rfl ?_
    refine m_aldN (k := 5) (j := b) hC hm (by decide) rfl rfl rfl dX10_against_29 (show _ < 40000 from (by omega)) ?_
    refine g_istore_n (lv' := [(3, .int (nI (S.2.1 5 b))), (0, .ref o), (1, .int (nI a)), (2, .int (nI b))]) hC dX10_against_30 rfl (by decide) rfl ?_
    refine g_iconst hC dX10_against_31 (v := nI 0) (by decide) ?_
    refine g_istore (lv' := [(4, .int (nI 0)), (3, .int (nI (S.2.1 5 b))), (0, .ref o), (1, .int (nI a)), (2, .int (nI b))]) hC dX10_against_32 (by decide) rfl ?_
    have e9 : S.2.1 5 b = n := by rw [← hn9]; split <;> omega
    rw [e9]
    exact lp 18 0 (by omega) (by omega) (by unfold agst; rw [hn9]; rfl)
  · refine g_aload_n hC dX10_against_15 rfl 0 rfl (Or.inr ⟨_, rfl⟩) ?_
    refine m_get_5 hC hin (by decide +kernel) dX10_against_16 ?_
    refine g_iload_n hC dX10_against_19 rfl 1 rfl ?_
    refine m_aldN (k := 5) (j := a) hC hm (by decide) rfl rfl rfl dX10_against_20 (show _ < 40000 from (by omega)) ?_
    refine g_goto (tgt := 30) hC dX10_against_21 (by decide) ?_
    refine g_istore_n (lv' := [(3, .int (nI (S.2.1 5 a))), (0, .ref o), (1, .int (nI a)), (2, .int (nI b))]) hC dX10_against_30 rfl (by decide) rfl ?_
    refine g_iconst hC dX10_against_31 (v := nI 0) (by decide) ?_
    refine g_istore (lv' := [(4, .int (nI 0)), (3, .int (nI (S.2.1 5 a))), (0, .ref o), (1, .int (nI a)), (2, .int (nI b))]) hC dX10_against_32 (by decide) rfl ?_
    have e9 : S.2.1 5 a = n := by rw [← hn9]; split <;> omega
    rw [e9]
    exact lp 18 0 (by omega) (by omega) (by unfold agst; rw [hn9]; rfl)
set_option maxRecDepth 20000 in
set_option maxHeartbeats 4000000 in
theorem c_pair (hk : gKok D vwCl (cyT cy) K) (hm : mOk o ad) (j i : Nat) (hi : i + 1 < 16) (hj : j < 10) (h5 : kd S j ≤ 5) (h1 : kd S j = 1 → wh S j < 40000) (h2 : kd S j ≠ 1 → wh S j < 600) : gCt l D vwCl K yX10_pair wsX10_pair { frames := 1, cells := 0, slots := 0, locals := 23 } [.ref o, .int (nI j), .int (nI i)] (mL o ad) (mW o ad cy S) (pE (some (.int (nI (pairS S j i)))) (mL o ad) (mW o ad cy S)) := by
  refine gCt.of hk (by decide) rfl rfl (fun X hC hR hnm => ?_)
  have hC : gC X l _ D vwCl (cyT cy) K cX10_pair 5 wsX10_pair RX10 := hC
  have hin : ∀ w ∈ wsX100, w ∈ wsX10_pair := by decide +kernel
  show gW X vwCl 5 (mL o ad) (mW o ad cy S) 0 0 0 [(0, .ref o), (1, .int (nI j)), (2, .int (nI i))] []
  have z1 : ¬ nI 66 = nI 65 := by decide
  refine g_aload_n hC dX10_pair_0 rfl 0 rfl (Or.inr ⟨_, rfl⟩) ?_
  refine g_iload_n hC dX10_pair_1 rfl 1 rfl ?_
  refine g_iload_n hC dX10_pair_2 rfl 2 rfl ?_
  refine g_V (As := [.int (nI j), .int (nI i)]) (st := []) hC 2 dX10_pair_3 rfl mL_o mW_o gX10_pair_X10_at rfl (by decide +kernel) ⟨Nat.le_of_ble_eq_true rfl, Nat.le_of_ble_eq_true rfl⟩ rfl (by decide) ⟨Nat.le_of_ble_eq_true rfl, Nat.le_of_ble_eq_true rfl⟩ (c2 := 0) (s2 := 0) rfl rfl (c_at hk hm j i (by omega) hj h5 h1 h2) ?_
  refine g_istore_n (lv' := [(3, .int (atS S j i)), (0, .ref o), (1, .int (nI j)), (2, .int (nI i))]) hC dX10_pair_6 rfl (by decide) rfl ?_
  refine g_aload_n hC dX10_pair_7 rfl 1 rfl (Or.inr ⟨_, rfl⟩) ?_
  refine g_iload_n hC dX10_pair_8 rfl 2 rfl ?_
  refine g_iload_n hC dX10_pair_9 rfl 3 rfl ?_
  refine g_iconst hC dX10_pair_10 (v := nI 1) (by decide) ?_
  refine g_iaddN (a := i) (b := 1) hC dX10_pair_11 ?_
  refine g_V (As := [.int (nI j), .int (nI (i + 1))]) (st := []) hC 2 dX10_pair_12 rfl mL_o mW_o gX10_pair_X10_at rfl (by decide +kernel) ⟨Nat.le_of_ble_eq_true rfl, Nat.le_of_ble_eq_true rfl⟩ rfl (by decide) ⟨Nat.le_of_ble_eq_true rfl, Nat.le_of_ble_eq_true rfl⟩ (c2 := 0) (s2 := 0) rfl rfl (c_at hk hm j (i + 1) (by omega) hj h5 h1 h2) ?_
  refine g_istore (lv' := [(4, .int (atS S j (i + 1))), (3, .int (atS S j i)), (0, .ref o), (1, .int (nI j)), (2, .int (nI i))]) hC dX10_pair_15 (by decide) rfl ?_
  refine g_iload_n hC dX10_pair_17 rfl 1 rfl ?_
  refine g_bipush hC dX10_pair_18 (v := nI 65) (by decide) ?_
  refine g_icmp_ne (tgt := 34) hC dX10_pair_20 (by decide) (fun h20 => ?_) (fun h20 => ?_)
  · refine g_iload_n hC dX10_pair_34 rfl 1 rfl ?_
    refine g_bipush hC dX10_pair_35 (v := nI 66) (by decide) ?_
    refine g_icmp_ne (tgt := 51) hC dX10_pair_37 (by decide) (fun h37 => ?_) (fun h37 => ?_)
    · refine g_iconst hC dX10_pair_51 (v := nI 0) (by decide) ?_
      exact g_iret hC hR dX10_pair_52 ⟨by unfold pairS; (repeat' split) <;> first | rfl | (exfalso; omega) | (exfalso; simp_all; done), rfl, rfl⟩
    · refine g_iload hC dX10_pair_40 0 rfl ?_
      refine g_bipush hC dX10_pair_42 (v := nI 66) (by decide) ?_
      refine g_icmp_ne (tgt := 51) hC dX10_pair_44 (by decide) (fun h44 => ?_) (fun h44 => ?_)
      · refine g_iconst hC dX10_pair_51 (v := nI 0) (by decide) ?_
        exact g_iret hC hR dX10_pair_52 ⟨by unfold pairS; (repeat' split) <;> first | rfl | (exfalso; omega) | (exfalso; simp_all; done), rfl, rfl⟩
      · refine g_iconst hC dX10_pair_47 (v := nI 2) (by decide) ?_
        refine g_goto (tgt := 52) hC dX10_pair_48 (by decide) ?_
        exact g_iret hC hR dX10_pair_52 ⟨by unfold pairS; (repeat' split) <;> first | rfl | (exfalso; omega) | (exfalso; simp_all; done), rfl, rfl⟩
  · refine g_iload hC dX10_pair_23 0 rfl ?_
    refine g_bipush hC dX10_pair_25 (v := nI 97) (by decide) ?_
    refine g_icmp_ne (tgt := 34) hC dX10_pair_27 (by decide) (fun h27 => ?_) (fun h27 => ?_)
    · refine g_iload_n hC dX10_pair_34 rfl 1 rfl ?_
      refine g_bipush hC dX10_pair_35 (v := nI 66) (by decide) ?_
      refine g_icmp_ne (tgt := 51) hC dX10_pair_37 (by decide) (fun h37 => ?_) (fun h37 => ?_)
      · refine g_iconst hC dX10_pair_51 (v := nI 0) (by decide) ?_
        exact g_iret hC hR dX10_pair_52 ⟨by unfold pairS; (repeat' split) <;> first | rfl | (exfalso; omega) | (exfalso; simp_all; done), rfl, rfl⟩
      · refine g_iload hC dX10_pair_40 0 rfl ?_
        refine g_bipush hC dX10_pair_42 (v := nI 66) (by decide) ?_
        refine g_icmp_ne (tgt := 51) hC dX10_pair_44 (by decide) (fun h44 => ?_) (fun h44 => ?_)
        · refine g_iconst hC dX10_pair_51 (v := nI 0) (by decide) ?_
          exact g_iret hC hR dX10_pair_52 ⟨by unfold pairS; (repeat' split) <;> first | rfl | (exfalso; omega) | (exfalso; simp_all; done), rfl, rfl⟩
        · refine g_iconst hC dX10_pair_47 (v := nI 2) (by decide) ?_
          refine g_goto (tgt := 52) hC dX10_pair_48 (by decide) ?_
          exact g_iret hC hR dX10_pair_52 ⟨by unfold pairS; (repeat' split) <;> first | rfl | (exfalso; omega) | (exfalso; simp_all; done), rfl, rfl⟩
    · refine g_iconst hC dX10_pair_30 (v := nI 1) (by decide) ?_
      refine g_goto (tgt := 52) hC dX10_pair_31 (by decide) ?_
      exact g_iret hC hR dX10_pair_52 ⟨by unfold pairS; (repeat' split) <;> first | rfl | (exfalso; omega) | (exfalso; simp_all; done), rfl, rfl⟩
set_option maxRecDepth 20000 in
set_option maxHeartbeats 4000000 in
theorem c_bothFault (hk : gKok D vwCl (cyT cy) K) (hm : mOk o ad) (j q t : Nat) (ht : t < 2147483648) (hj : j < 10) (h5 : kd S j ≤ 5) (hq : q < 10) (hq5 : kd S q ≤ 5) : gCt l D vwCl K yX10_bothFault wsX10_bothFault { frames := 2, cells := 0, slots := 0, locals := 44 } [.ref o, .int (nI j), .int (nI q), .int (nI t)] (mL o ad) (mW o ad cy S) (pE (some (.int (nI (bthF S j q t)))) (mL o ad) (mW o ad cy S)) := by
  refine gCt.of hk (by decide) rfl rfl (fun X hC hR hnm => ?_)
  have hC : gC X l _ D vwCl (cyT cy) K cX10_bothFault 6 wsX10_bothFault RX10 := hC
  have hin : ∀ w ∈ wsX100, w ∈ wsX10_bothFault := by decide +kernel
  show gW X vwCl 6 (mL o ad) (mW o ad cy S) 0 0 0 [(0, .ref o), (1, .int (nI j)), (2, .int (nI q)), (3, .int (nI t))] []
  have hf3 : ∀ x y, castF S x y ≤ 2 := fun x y => by unfold castF; (repeat' split) <;> omega
  have hf1 := hf3 j 4
  have hf2 := hf3 q t
  refine g_aload_n hC dX10_bothFault_0 rfl 0 rfl (Or.inr ⟨_, rfl⟩) ?_
  refine g_iload_n hC dX10_bothFault_1 rfl 1 rfl ?_
  refine g_iconst hC dX10_bothFault_2 (v := nI 4) (by decide) ?_
  refine g_V (As := [.int (nI j), .int (nI 4)]) (st := []) hC 2 dX10_bothFault_3 rfl mL_o mW_o gX10_bothFault_X10_castFault rfl (by decide +kernel) ⟨Nat.le_of_ble_eq_true rfl, Nat.le_of_ble_eq_true rfl⟩ rfl (by decide) ⟨Nat.le_of_ble_eq_true rfl, Nat.le_of_ble_eq_true rfl⟩ (c2 := 0) (s2 := 0) rfl rfl (c_castFault hk hm j 4 (by decide) hj h5) ?_
  refine g_istore (lv' := [(4, .int (nI (castF S j 4))), (0, .ref o), (1, .int (nI j)), (2, .int (nI q)), (3, .int (nI t))]) hC dX10_bothFault_6 (by decide) rfl ?_
  refine g_aload_n hC dX10_bothFault_8 rfl 1 rfl (Or.inr ⟨_, rfl⟩) ?_
  refine g_iload_n hC dX10_bothFault_9 rfl 3 rfl ?_
  refine g_iload_n hC dX10_bothFault_10 rfl 4 rfl ?_
  refine g_V (As := [.int (nI q), .int (nI t)]) (st := []) hC 2 dX10_bothFault_11 rfl mL_o mW_o gX10_bothFault_X10_castFault rfl (by decide +kernel) ⟨Nat.le_of_ble_eq_true rfl, Nat.le_of_ble_eq_true rfl⟩ rfl (by decide) ⟨Nat.le_of_ble_eq_true rfl, Nat.le_of_ble_eq_true rfl⟩ (c2 := 0) (s2 := 0) rfl rfl (c_castFault hk hm q t ht hq hq5) ?_
  refine g_istore (lv' := [(5, .int (nI (castF S q t))), (4, .int (nI (castF S j 4))), (0, .ref o), (1, .int (nI j)), (2, .int (nI q)), (3, .int (nI t))]) hC dX10_bothFault_14 (by decide) rfl ?_
  refine g_iload hC dX10_bothFault_16 1 rfl ?_
  refine g_iconst hC dX10_bothFault_18 (v := nI 2) (by decide) ?_
  refine g_icmpN_eq (a := castF S j 4) (b := 2) (tgt := 28) hC dX10_bothFault_19 (by decide) (by omega) (by omega) (fun h19 => ?_) (fun h19 => ?_)
  · refine g_iconst hC dX10_bothFault_28 (v := nI 2) (by decide) ?_
    refine g_goto (tgt := 49) hC dX10_bothFault_29 (by decide) ?_
    exact g_iret hC hR dX10_bothFault_49 ⟨by unfold bthF; (repeat' split) <;> first | rfl | (exfalso; omega) | (exfalso; simp_all; done), rfl, rfl⟩
  · refine g_iload hC dX10_bothFault_22 0 rfl ?_
    refine g_iconst hC dX10_bothFault_24 (v := nI 2) (by decide) ?_
    refine g_icmpN_ne (a := castF S q t) (b := 2) (tgt := 32) hC dX10_bothFault_25 (by decide) (by omega) (by omega) (fun h25 => ?_) (fun h25 => ?_)
    · refine g_iload hC dX10_bothFault_32 1 rfl ?_
      refine g_iconst hC dX10_bothFault_34 (v := nI 1) (by decide) ?_
      refine g_icmpN_eq (a := castF S j 4) (b := 1) (tgt := 44) hC dX10_bothFault_35 (by decide) (by omega) (by omega) (fun h35 => ?_) (fun h35 => ?_)
      · refine g_iconst hC dX10_bothFault_44 (v := nI 1) (by decide) ?_
        refine g_goto (tgt := 49) hC dX10_bothFault_45 (by decide) ?_
        exact g_iret hC hR dX10_bothFault_49 ⟨by unfold bthF; (repeat' split) <;> first | rfl | (exfalso; omega) | (exfalso; simp_all; done), rfl, rfl⟩
      · refine g_iload hC dX10_bothFault_38 0 rfl ?_
        refine g_iconst hC dX10_bothFault_40 (v := nI 1) (by decide) ?_
        refine g_icmpN_ne (a := castF S q t) (b := 1) (tgt := 48) hC dX10_bothFault_41 (by decide) (by omega) (by omega) (fun h41 => ?_) (fun h41 => ?_)
        · refine g_iconst hC dX10_bothFault_48 (v := nI 0) (by decide) ?_
          exact g_iret hC hR dX10_bothFault_49 ⟨by unfold bthF; (repeat' split) <;> first | rfl | (exfalso; omega) | (exfalso; simp_all; done), rfl, rfl⟩
        · refine g_iconst hC dX10_bothFault_44 (v := nI 1) (by decide) ?_
          refine g_goto (tgt := 49) hC dX10_bothFault_45 (by decide) ?_
          exact g_iret hC hR dX10_bothFault_49 ⟨by unfold bthF; (repeat' split) <;> first | rfl | (exfalso; omega) | (exfalso; simp_all; done), rfl, rfl⟩
    · refine g_iconst hC dX10_bothFault_28 (v := nI 2) (by decide) ?_
      refine g_goto (tgt := 49) hC dX10_bothFault_29 (by decide) ?_
      exact g_iret hC hR dX10_bothFault_49 ⟨by unfold bthF; (repeat' split) <;> first | rfl | (exfalso; omega) | (exfalso; simp_all; done), rfl, rfl⟩
set_option maxRecDepth 20000 in
set_option maxHeartbeats 4000000 in
theorem c_twinOf (hk : gKok D vwCl (cyT cy) K) (hm : mOk o ad) (r : Nat) (hr : r < 40000) (hb : S.1 4 < 40000) (hrb : r < S.1 4) : gCt l D vwCl K yX10_twinOf wsX10_twinOf { frames := 1, cells := 0, slots := 0, locals := 22 } [.ref o, .int (nI r)] (mL o ad) (mW o ad cy S) (pE (some (.int (nI (S.1 4)))) (mL o ad) (mW o ad cy (twinB S r))) := by
  refine gCt.of hk (by decide) rfl rfl (fun X hC hR hnm => ?_)
  have hC : gC X l _ D vwCl (cyT cy) K cX10_twinOf 4 wsX10_twinOf RX10 := hC
  have hin : ∀ w ∈ wsX100, w ∈ wsX10_twinOf := by decide +kernel
  show gW X vwCl 4 (mL o ad) (mW o ad cy S) 0 0 0 [(0, .ref o), (1, .int (nI r))] []
  have lp : ∀ (m : Nat) (k : Nat), 17 - k < m → (k ≤ 16) → gW X vwCl 4 (mL o ad) (mW o ad cy (aWr (newB S (S.2.1 5 r)) 6 (16 * S.1 4) k (fun k => S.2.2 6 (16 * r + k)))) 0 0 13 [(3, .int (nI k)), (2, .int (nI (S.1 4))), (0, .ref o), (1, .int (nI r))] [] := by
    intro m
    induction m with
    | zero => intros; omega
    | succ m ih =>
      intro k hm9 hk9
      have hrd : k < 16 → (aWr (newB S (S.2.1 5 r)) 6 (16 * S.1 4) k (fun k => S.2.2 6 (16 * r + k))).2.2 6 (16 * r + k) = S.2.2 6 (16 * r + k) := by
        intro hk8
        simp only [aWr, newB, aSc, aN, va_up, if_pos]
        rw [if_neg (by omega), if_neg (by omega)]
      refine g_iload_n hC dX10_twinOf_13 rfl 0 rfl ?_
      refine g_bipush hC dX10_twinOf_14 (v := nI 16) (by decide) ?_
      refine g_icmpN_ge (a := k) (b := 16) (tgt := 47) hC dX10_twinOf_16 (by decide) (by omega) (by omega) (fun h16 => ?_) (fun h16 => ?_)
      · refine g_iload_n hC dX10_twinOf_47 rfl 1 rfl ?_
        obtain rfl : k = 16 := by omega
        exact g_iret hC hR dX10_twinOf_48 ⟨rfl, rfl, rfl⟩
      · refine g_aload_n hC dX10_twinOf_19 rfl 2 rfl (Or.inr ⟨_, rfl⟩) ?_
        refine m_get_6 hC hin (by decide +kernel) dX10_twinOf_20 ?_
        refine g_bipush hC dX10_twinOf_23 (v := nI 16) (by decide) ?_
        refine g_iload_n hC dX10_twinOf_25 rfl 1 rfl ?_
        refine g_imulN (a := 16) (b := S.1 4) hC dX10_twinOf_26 ?_
        refine g_iload_n hC dX10_twinOf_27 rfl 0 rfl ?_
        refine g_iaddN (a := 16 * (S.1 4)) (b := k) hC dX10_twinOf_28 ?_
        refine g_aload_n hC dX10_twinOf_29 rfl 2 rfl (Or.inr ⟨_, rfl⟩) ?_
        refine m_get_6 hC hin (by decide +kernel) dX10_twinOf_30 ?_
        refine g_bipush hC dX10_twinOf_33 (v := nI 16) (by decide) ?_
        refine g_iload_n hC dX10_twinOf_35 rfl 3 rfl ?_
        refine g_imulN (a := 16) (b := r) hC dX10_twinOf_36 ?_
        refine g_iload_n hC dX10_twinOf_37 rfl 0 rfl ?_
        refine g_iaddN (a := 16 * r) (b := k) hC dX10_twinOf_38 ?_
        refine m_aldW (k := 6) (j := (16 * r) + k) hC hm (by decide) rfl rfl rfl dX10_twinOf_39 (show _ < 640000 from (by omega)) ?_
        refine m_astW (k := 6) (j := (16 * (S.1 4)) + k) (x := ((aWr (newB S (S.2.1 5 r)) 6 (16 * S.1 4) k (fun k => S.2.2 6 (16 * r + k)))).2.2 6 ((16 * r) + k)) hC hm (by decide) rfl (fun _ => rfl) rfl dX10_twinOf_40 (show _ < 640000 from (by omega)) ?_
        refine g_iincN (n := 1) (a := k) (lv' := [(3, .int (nI (k + 1))), (2, .int (nI (S.1 4))), (0, .ref o), (1, .int (nI r))]) hC dX10_twinOf_41 0 rfl (by decide) rfl ?_
        refine g_goto (tgt := 13) hC dX10_twinOf_44 (by decide) ?_
        have e0 : aW (aWr (newB S (S.2.1 5 r)) 6 (16 * S.1 4) k (fun k => S.2.2 6 (16 * r + k))) 6 (16 * S.1 4 + k) (S.2.2 6 (16 * r + k)) = aWr (newB S (S.2.1 5 r)) 6 (16 * S.1 4) (k + 1) (fun k => S.2.2 6 (16 * r + k)) := aWr_s (g := fun k => S.2.2 6 (16 * r + k))
        rw [hrd (by omega), e0]
        exact ih (k + 1) (by omega) (by omega)
  refine g_aload_n hC dX10_twinOf_0 rfl 0 rfl (Or.inr ⟨_, rfl⟩) ?_
  refine g_aload_n hC dX10_twinOf_1 rfl 0 rfl (Or.inr ⟨_, rfl⟩) ?_
  refine m_get_5 hC hin (by decide +kernel) dX10_twinOf_2 ?_
  refine g_iload_n hC dX10_twinOf_5 rfl 1 rfl ?_
  refine m_aldN (k := 5) (j := r) hC hm (by decide) rfl rfl rfl dX10_twinOf_6 (show _ < 40000 from (by omega)) ?_
  refine g_V (As := [.int (nI (S.2.1 5 r))]) (st := []) hC 1 dX10_twinOf_7 rfl mL_o mW_o gX10_twinOf_X10_newBytes rfl (by decide +kernel) ⟨Nat.le_of_ble_eq_true rfl, Nat.le_of_ble_eq_true rfl⟩ rfl (by decide) ⟨Nat.le_of_ble_eq_true rfl, Nat.le_of_ble_eq_true rfl⟩ (c2 := 0) (s2 := 0) rfl rfl (c_newBytes hk hm _ hb) ?_
  refine g_istore_n (lv' := [(2, .int (nI (S.1 4))), (0, .ref o), (1, .int (nI r))]) hC dX10_twinOf_10 rfl (by decide) rfl ?_
  refine g_iconst hC dX10_twinOf_11 (v := nI 0) (by decide) ?_
  refine g_istore_n (lv' := [(3, .int (nI 0)), (2, .int (nI (S.1 4))), (0, .ref o), (1, .int (nI r))]) hC dX10_twinOf_12 rfl (by decide) rfl ?_
  rw [← aWr_0 (S := newB S (S.2.1 5 r)) (k := 6) (base := 16 * S.1 4) (g := fun k => S.2.2 6 (16 * r + k))]
  exact lp 18 0 (by omega) (by omega)
end M2
