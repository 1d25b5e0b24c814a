section Y3
variable {l : Launch} {D : va_G} {cy adK adV : Nat → Nat} {L : List Nat} {f : Nat → va_E}
set_option maxRecDepth 20000 in
set_option maxHeartbeats 4000000 in
theorem y_slot {S : aS} {b : xB} (hx : xR cy S b L f) (hI : aI S) (M : Nat) (hM : b.1 9 0 = M) (p i : Int32) : gCt l D vwCl (gKK D cy adK adV) yX9_slot wsX9_slot { frames := 5, cells := 0, slots := 0, locals := 103 } [.ref M, .int p, .int i] L f (xP cy S b (s_slot S p i).2 (fun _ => some (.int (s_slot S p i).1))) := by
  refine gCt.of gKK_ok (by decide) rfl rfl (fun X hC hR hnm => ?_)
  have hC : gC X l _ D vwCl (cyT cy) (gKK D cy adK adV) cX9_slot 5 wsX9_slot RX9 := hC
  have hx0 := hx.th0
  have hI0 := hI.th
  show gW X vwCl 5 L f 0 0 0 [(0, .ref M), (1, .int p), (2, .int i)] []
  refine g_iload_n hC dX9_slot_0 rfl 1 rfl ?_
  refine g_S (As := [.int p]) (st := []) hC 1 dX9_slot_1 gX9_slot_X9_isPlace rfl (by decide +kernel) ⟨Nat.le_of_ble_eq_true rfl, Nat.le_of_ble_eq_true rfl⟩ rfl (Nat.le_of_ble_eq_true rfl) ⟨Nat.le_of_ble_eq_true rfl, Nat.le_of_ble_eq_true rfl⟩ (c2 := 0) (s2 := 0) rfl rfl (x_isPlace _) ?_
  refine g_ifB_ne (P := isP p) (tgt := 9) hC dX9_slot_4 (by decide) (fun h4 => ?_) (fun h4 => ?_)
  · obtain ⟨pj, hpj, rfl⟩ := isP_j h4
    have hpl_p : pl (nI pj) = pj := nI_clamp (by omega)
    refine g_aload_n hC dX9_slot_9 rfl 0 rfl (Or.inr ⟨_, rfl⟩) ?_
    refine g_get hC (by decide +kernel) rfl (hx0.M hM).1 (hx0.M hM).2 0 (by decide) (by decide +kernel) (Or.inl rfl) rfl dX9_slot_10 ?_
    refine g_iload_n hC dX9_slot_13 rfl 1 rfl ?_
    have h5_p := hI.k5 hpj
    rcases (show kd S pj = 0 ∨ kd S pj = 1 ∨ kd S pj = 2 ∨ kd S pj = 3 ∨ kd S pj = 4 ∨ kd S pj = 5 by omega) with hk_p | hk_p | hk_p | hk_p | hk_p | hk_p
    · have hp0_p : plcF (thS S) b pj = none := plc_0 hpj hk_p
      refine g_aald hC 5 rfl (hx0.Mp rfl).1 (hx0.Mp rfl).2 (pj) rfl (show pj < 10 by omega) (by decide) dX9_slot_14 ?_
      refine g_val (w := .null) (congrArg va_rf hp0_p) ?_
      refine g_S (As := [.null]) (st := []) hC 1 dX9_slot_15 gX9_slot_X9_tableFault rfl (by decide +kernel) ⟨Nat.le_of_ble_eq_true rfl, Nat.le_of_ble_eq_true rfl⟩ rfl (Nat.le_of_ble_eq_true rfl) ⟨Nat.le_of_ble_eq_true rfl, Nat.le_of_ble_eq_true rfl⟩ (c2 := 0) (s2 := 0) rfl rfl (x_tableFault none 0 (Or.inl ⟨rfl, rfl⟩)) ?_
      refine g_istore_n (lv' := [(3, .int (nI 1)), (0, .ref M), (1, .int (nI pj)), (2, .int i)]) hC dX9_slot_18 rfl (by decide) rfl ?_
      refine g_aload_n hC dX9_slot_19 rfl 1 rfl (Or.inr ⟨_, rfl⟩) ?_
      refine g_get hC (by decide +kernel) rfl (hx0.M hM).1 (hx0.M hM).2 0 (by decide) (by decide +kernel) (Or.inl rfl) rfl dX9_slot_20 ?_
      refine g_iload_n hC dX9_slot_23 rfl 2 rfl ?_
      refine g_aald hC 5 rfl (hx0.Mp rfl).1 (hx0.Mp rfl).2 (pj) rfl (show pj < 10 by omega) (by decide) dX9_slot_24 ?_
      refine g_val (w := .null) (congrArg va_rf hp0_p) ?_
      refine g_S (As := [.null]) (st := []) hC 1 dX9_slot_25 gX9_slot_X9_asTable rfl (by decide +kernel) ⟨Nat.le_of_ble_eq_true rfl, Nat.le_of_ble_eq_true rfl⟩ rfl (Nat.le_of_ble_eq_true rfl) ⟨Nat.le_of_ble_eq_true rfl, Nat.le_of_ble_eq_true rfl⟩ (c2 := 0) (s2 := 0) rfl rfl (x_asTable none 0 (Or.inl ⟨rfl, rfl⟩)) ?_
      refine g_astore (lv' := [(4, .null), (3, .int (nI 1)), (0, .ref M), (1, .int (nI pj)), (2, .int i)]) hC dX9_slot_28 (by decide) rfl (Or.inl rfl) ?_
      refine g_iload_n hC dX9_slot_30 rfl 1 rfl ?_
      refine g_ifN_ne (a := 1) (tgt := 39) hC dX9_slot_31 (by decide) (by omega) (fun h31 => ?_) (fun h31 => ?_)
      · refine g_aload_n hC dX9_slot_39 rfl 2 rfl (Or.inr ⟨_, rfl⟩) ?_
        refine g_iload_n hC dX9_slot_40 rfl 1 rfl ?_
        refine g_Vx (As := [.int (nI 1)]) (st := []) hC 1 dX9_slot_41 rfl (hx0.M hM).1 (hx0.M hM).2 gX9_slot_X9_failed rfl (by decide +kernel) ⟨Nat.le_of_ble_eq_true rfl, Nat.le_of_ble_eq_true rfl⟩ rfl (Nat.le_of_ble_eq_true rfl) ⟨(Nat.le_of_ble_eq_true rfl), (Nat.le_of_ble_eq_true rfl)⟩ (c2 := 0) (s2 := 0) rfl rfl (x_failed hx0 M hM 1) (fun v1 L1 f1 hp1 => ?_)
        obtain ⟨rfl, hx1⟩ := hp1
        show gW X vwCl 5 L1 f1 0 0 44 [(4, .null), (3, .int (nI 1)), (0, .ref M), (1, .int (nI pj)), (2, .int i)] [.int (fA 1)]
        have hc_p : castF S pj 4 = 1 := by unfold castF isO; rw [hk_p] <;> decide
        have hE : s_slot S (nI pj) i = (fA 1, (aSc (thS S) 1 1)) := by
          unfold s_slot
          rw [if_pos h4, hpl_p, hc_p, if_pos (show 0 < 1 by decide)] <;> rfl
        exact g_iret hC hR dX9_slot_44 ⟨b, congrArg (fun z => some (Value.int (Prod.fst z))) hE.symm, by rw [hE]; exact hx1, xG.rf⟩
      · exfalso; omega
    · have hw_p : wh S pj < S.1 4 := hI.wl hpj hk_p
      have hp0_p : plcF (thS S) b pj = some (b.1 0 (wh S pj)) := plc_k hpj hk_p (by decide)
      refine g_aald hC 5 rfl (hx0.Mp rfl).1 (hx0.Mp rfl).2 (pj) rfl (show pj < 10 by omega) (by decide) dX9_slot_14 ?_
      refine g_val (w := .ref (b.1 0 (wh S pj))) (congrArg va_rf hp0_p) ?_
      refine g_S (As := [.ref (b.1 0 (wh S pj))]) (st := []) hC 1 dX9_slot_15 gX9_slot_X9_tableFault rfl (by decide +kernel) ⟨Nat.le_of_ble_eq_true rfl, Nat.le_of_ble_eq_true rfl⟩ rfl (Nat.le_of_ble_eq_true rfl) ⟨Nat.le_of_ble_eq_true rfl, Nat.le_of_ble_eq_true rfl⟩ (c2 := 0) (s2 := 0) rfl rfl (x_tableFault (some (b.1 0 (wh S pj))) 1 (Or.inr ⟨_, 0, _, rfl, (hx0.B hw_p rfl), Or.inl ⟨rfl, rfl⟩⟩)) ?_
      refine g_istore_n (lv' := [(3, .int (nI 2)), (0, .ref M), (1, .int (nI pj)), (2, .int i)]) hC dX9_slot_18 rfl (by decide) rfl ?_
      refine g_aload_n hC dX9_slot_19 rfl 1 rfl (Or.inr ⟨_, rfl⟩) ?_
      refine g_get hC (by decide +kernel) rfl (hx0.M hM).1 (hx0.M hM).2 0 (by decide) (by decide +kernel) (Or.inl rfl) rfl dX9_slot_20 ?_
      refine g_iload_n hC dX9_slot_23 rfl 2 rfl ?_
      refine g_aald hC 5 rfl (hx0.Mp rfl).1 (hx0.Mp rfl).2 (pj) rfl (show pj < 10 by omega) (by decide) dX9_slot_24 ?_
      refine g_val (w := .ref (b.1 0 (wh S pj))) (congrArg va_rf hp0_p) ?_
      refine g_S (As := [.ref (b.1 0 (wh S pj))]) (st := []) hC 1 dX9_slot_25 gX9_slot_X9_asTable rfl (by decide +kernel) ⟨Nat.le_of_ble_eq_true rfl, Nat.le_of_ble_eq_true rfl⟩ rfl (Nat.le_of_ble_eq_true rfl) ⟨Nat.le_of_ble_eq_true rfl, Nat.le_of_ble_eq_true rfl⟩ (c2 := 0) (s2 := 0) rfl rfl (x_asTable (some (b.1 0 (wh S pj))) 1 (Or.inr ⟨_, 0, _, rfl, (hx0.B hw_p rfl), Or.inl ⟨rfl, rfl⟩⟩)) ?_
      refine g_astore (lv' := [(4, .null), (3, .int (nI 2)), (0, .ref M), (1, .int (nI pj)), (2, .int i)]) hC dX9_slot_28 (by decide) rfl (Or.inl rfl) ?_
      refine g_iload_n hC dX9_slot_30 rfl 1 rfl ?_
      refine g_ifN_ne (a := 2) (tgt := 39) hC dX9_slot_31 (by decide) (by omega) (fun h31 => ?_) (fun h31 => ?_)
      · refine g_aload_n hC dX9_slot_39 rfl 2 rfl (Or.inr ⟨_, rfl⟩) ?_
        refine g_iload_n hC dX9_slot_40 rfl 1 rfl ?_
        refine g_Vx (As := [.int (nI 2)]) (st := []) hC 1 dX9_slot_41 rfl (hx0.M hM).1 (hx0.M hM).2 gX9_slot_X9_failed rfl (by decide +kernel) ⟨Nat.le_of_ble_eq_true rfl, Nat.le_of_ble_eq_true rfl⟩ rfl (Nat.le_of_ble_eq_true rfl) ⟨(Nat.le_of_ble_eq_true rfl), (Nat.le_of_ble_eq_true rfl)⟩ (c2 := 0) (s2 := 0) rfl rfl (x_failed hx0 M hM 2) (fun v1 L1 f1 hp1 => ?_)
        obtain ⟨rfl, hx1⟩ := hp1
        show gW X vwCl 5 L1 f1 0 0 44 [(4, .null), (3, .int (nI 2)), (0, .ref M), (1, .int (nI pj)), (2, .int i)] [.int (fA 2)]
        have hc_p : castF S pj 4 = 2 := by unfold castF isO; rw [hk_p] <;> decide
        have hE : s_slot S (nI pj) i = (fA 2, (aSc (thS S) 1 2)) := by
          unfold s_slot
          rw [if_pos h4, hpl_p, hc_p, if_pos (show 0 < 2 by decide)] <;> rfl
        exact g_iret hC hR dX9_slot_44 ⟨b, congrArg (fun z => some (Value.int (Prod.fst z))) hE.symm, by rw [hE]; exact hx1, xG.rf⟩
      · exfalso; omega
    · have hw_p : wh S pj < S.1 7 := hI.ws hpj hk_p
      have hp0_p : plcF (thS S) b pj = some (b.1 2 (wh S pj)) := plc_k hpj hk_p (by decide)
      refine g_aald hC 5 rfl (hx0.Mp rfl).1 (hx0.Mp rfl).2 (pj) rfl (show pj < 10 by omega) (by decide) dX9_slot_14 ?_
      refine g_val (w := .ref (b.1 2 (wh S pj))) (congrArg va_rf hp0_p) ?_
      refine g_S (As := [.ref (b.1 2 (wh S pj))]) (st := []) hC 1 dX9_slot_15 gX9_slot_X9_tableFault rfl (by decide +kernel) ⟨Nat.le_of_ble_eq_true rfl, Nat.le_of_ble_eq_true rfl⟩ rfl (Nat.le_of_ble_eq_true rfl) ⟨Nat.le_of_ble_eq_true rfl, Nat.le_of_ble_eq_true rfl⟩ (c2 := 0) (s2 := 0) rfl rfl (x_tableFault (some (b.1 2 (wh S pj))) 2 (Or.inr ⟨_, 4, _, rfl, (hx0.G hw_p rfl), Or.inr (Or.inl ⟨rfl, rfl⟩)⟩)) ?_
      refine g_istore_n (lv' := [(3, .int (nI 2)), (0, .ref M), (1, .int (nI pj)), (2, .int i)]) hC dX9_slot_18 rfl (by decide) rfl ?_
      refine g_aload_n hC dX9_slot_19 rfl 1 rfl (Or.inr ⟨_, rfl⟩) ?_
      refine g_get hC (by decide +kernel) rfl (hx0.M hM).1 (hx0.M hM).2 0 (by decide) (by decide +kernel) (Or.inl rfl) rfl dX9_slot_20 ?_
      refine g_iload_n hC dX9_slot_23 rfl 2 rfl ?_
      refine g_aald hC 5 rfl (hx0.Mp rfl).1 (hx0.Mp rfl).2 (pj) rfl (show pj < 10 by omega) (by decide) dX9_slot_24 ?_
      refine g_val (w := .ref (b.1 2 (wh S pj))) (congrArg va_rf hp0_p) ?_
      refine g_S (As := [.ref (b.1 2 (wh S pj))]) (st := []) hC 1 dX9_slot_25 gX9_slot_X9_asTable rfl (by decide +kernel) ⟨Nat.le_of_ble_eq_true rfl, Nat.le_of_ble_eq_true rfl⟩ rfl (Nat.le_of_ble_eq_true rfl) ⟨Nat.le_of_ble_eq_true rfl, Nat.le_of_ble_eq_true rfl⟩ (c2 := 0) (s2 := 0) rfl rfl (x_asTable (some (b.1 2 (wh S pj))) 2 (Or.inr ⟨_, 4, _, rfl, (hx0.G hw_p rfl), Or.inr (Or.inl ⟨rfl, rfl⟩)⟩)) ?_
      refine g_astore (lv' := [(4, .null), (3, .int (nI 2)), (0, .ref M), (1, .int (nI pj)), (2, .int i)]) hC dX9_slot_28 (by decide) rfl (Or.inl rfl) ?_
      refine g_iload_n hC dX9_slot_30 rfl 1 rfl ?_
      refine g_ifN_ne (a := 2) (tgt := 39) hC dX9_slot_31 (by decide) (by omega) (fun h31 => ?_) (fun h31 => ?_)
      · refine g_aload_n hC dX9_slot_39 rfl 2 rfl (Or.inr ⟨_, rfl⟩) ?_
        refine g_iload_n hC dX9_slot_40 rfl 1 rfl ?_
        refine g_Vx (As := [.int (nI 2)]) (st := []) hC 1 dX9_slot_41 rfl (hx0.M hM).1 (hx0.M hM).2 gX9_slot_X9_failed rfl (by decide +kernel) ⟨Nat.le_of_ble_eq_true rfl, Nat.le_of_ble_eq_true rfl⟩ rfl (Nat.le_of_ble_eq_true rfl) ⟨(Nat.le_of_ble_eq_true rfl), (Nat.le_of_ble_eq_true rfl)⟩ (c2 := 0) (s2 := 0) rfl rfl (x_failed hx0 M hM 2) (fun v1 L1 f1 hp1 => ?_)
        obtain ⟨rfl, hx1⟩ := hp1
        show gW X vwCl 5 L1 f1 0 0 44 [(4, .null), (3, .int (nI 2)), (0, .ref M), (1, .int (nI pj)), (2, .int i)] [.int (fA 2)]
        have hc_p : castF S pj 4 = 2 := by unfold castF isO; rw [hk_p] <;> decide
        have hE : s_slot S (nI pj) i = (fA 2, (aSc (thS S) 1 2)) := by
          unfold s_slot
          rw [if_pos h4, hpl_p, hc_p, if_pos (show 0 < 2 by decide)] <;> rfl
        exact g_iret hC hR dX9_slot_44 ⟨b, congrArg (fun z => some (Value.int (Prod.fst z))) hE.symm, by rw [hE]; exact hx1, xG.rf⟩
      · exfalso; omega
    · have hw_p : wh S pj < S.1 10 := hI.wr hpj hk_p
      have hp0_p : plcF (thS S) b pj = some (b.1 4 (wh S pj)) := plc_k hpj hk_p (by decide)
      refine g_aald hC 5 rfl (hx0.Mp rfl).1 (hx0.Mp rfl).2 (pj) rfl (show pj < 10 by omega) (by decide) dX9_slot_14 ?_
      refine g_val (w := .ref (b.1 4 (wh S pj))) (congrArg va_rf hp0_p) ?_
      refine g_S (As := [.ref (b.1 4 (wh S pj))]) (st := []) hC 1 dX9_slot_15 gX9_slot_X9_tableFault rfl (by decide +kernel) ⟨Nat.le_of_ble_eq_true rfl, Nat.le_of_ble_eq_true rfl⟩ rfl (Nat.le_of_ble_eq_true rfl) ⟨Nat.le_of_ble_eq_true rfl, Nat.le_of_ble_eq_true rfl⟩ (c2 := 0) (s2 := 0) rfl rfl (x_tableFault (some (b.1 4 (wh S pj))) 3 (Or.inr ⟨_, 3, _, rfl, (hx0.W hw_p rfl), Or.inr (Or.inr (Or.inl ⟨rfl, rfl⟩))⟩)) ?_
      refine g_istore_n (lv' := [(3, .int (nI 2)), (0, .ref M), (1, .int (nI pj)), (2, .int i)]) hC dX9_slot_18 rfl (by decide) rfl ?_
      refine g_aload_n hC dX9_slot_19 rfl 1 rfl (Or.inr ⟨_, rfl⟩) ?_
      refine g_get hC (by decide +kernel) rfl (hx0.M hM).1 (hx0.M hM).2 0 (by decide) (by decide +kernel) (Or.inl rfl) rfl dX9_slot_20 ?_
      refine g_iload_n hC dX9_slot_23 rfl 2 rfl ?_
      refine g_aald hC 5 rfl (hx0.Mp rfl).1 (hx0.Mp rfl).2 (pj) rfl (show pj < 10 by omega) (by decide) dX9_slot_24 ?_
      refine g_val (w := .ref (b.1 4 (wh S pj))) (congrArg va_rf hp0_p) ?_
      refine g_S (As := [.ref (b.1 4 (wh S pj))]) (st := []) hC 1 dX9_slot_25 gX9_slot_X9_asTable rfl (by decide +kernel) ⟨Nat.le_of_ble_eq_true rfl, Nat.le_of_ble_eq_true rfl⟩ rfl (Nat.le_of_ble_eq_true rfl) ⟨Nat.le_of_ble_eq_true rfl, Nat.le_of_ble_eq_true rfl⟩ (c2 := 0) (s2 := 0) rfl rfl (x_asTable (some (b.1 4 (wh S pj))) 3 (Or.inr ⟨_, 3, _, rfl, (hx0.W hw_p rfl), Or.inr (Or.inr (Or.inl ⟨rfl, rfl⟩))⟩)) ?_
      refine g_astore (lv' := [(4, .null), (3, .int (nI 2)), (0, .ref M), (1, .int (nI pj)), (2, .int i)]) hC dX9_slot_28 (by decide) rfl (Or.inl rfl) ?_
      refine g_iload_n hC dX9_slot_30 rfl 1 rfl ?_
      refine g_ifN_ne (a := 2) (tgt := 39) hC dX9_slot_31 (by decide) (by omega) (fun h31 => ?_) (fun h31 => ?_)
      · refine g_aload_n hC dX9_slot_39 rfl 2 rfl (Or.inr ⟨_, rfl⟩) ?_
        refine g_iload_n hC dX9_slot_40 rfl 1 rfl ?_
        refine g_Vx (As := [.int (nI 2)]) (st := []) hC 1 dX9_slot_41 rfl (hx0.M hM).1 (hx0.M hM).2 gX9_slot_X9_failed rfl (by decide +kernel) ⟨Nat.le_of_ble_eq_true rfl, Nat.le_of_ble_eq_true rfl⟩ rfl (Nat.le_of_ble_eq_true rfl) ⟨(Nat.le_of_ble_eq_true rfl), (Nat.le_of_ble_eq_true rfl)⟩ (c2 := 0) (s2 := 0) rfl rfl (x_failed hx0 M hM 2) (fun v1 L1 f1 hp1 => ?_)
        obtain ⟨rfl, hx1⟩ := hp1
        show gW X vwCl 5 L1 f1 0 0 44 [(4, .null), (3, .int (nI 2)), (0, .ref M), (1, .int (nI pj)), (2, .int i)] [.int (fA 2)]
        have hc_p : castF S pj 4 = 2 := by unfold castF isO; rw [hk_p] <;> decide
        have hE : s_slot S (nI pj) i = (fA 2, (aSc (thS S) 1 2)) := by
          unfold s_slot
          rw [if_pos h4, hpl_p, hc_p, if_pos (show 0 < 2 by decide)] <;> rfl
        exact g_iret hC hR dX9_slot_44 ⟨b, congrArg (fun z => some (Value.int (Prod.fst z))) hE.symm, by rw [hE]; exact hx1, xG.rf⟩
      · exfalso; omega
    · have hw_p : wh S pj < S.1 13 := hI.wt hpj (by omega)
      have hb_p : S.2.1 14 (wh S pj) = 0 := by have := ((hI.2.1 _ hpj).2.2.2.2.2 (by omega)).2; omega
      have hp0_p : plcF (thS S) b pj = some (b.1 6 (wh S pj)) := plc_k hpj hk_p (by decide)
      have htk := hI.tk hw_p
      have htm := htk.2.1
      have hts := htk.sl
      have htk0 := hI0.tk (show wh S pj < (thS S).1 13 from hw_p)
      refine g_aald hC 5 rfl (hx0.Mp rfl).1 (hx0.Mp rfl).2 (pj) rfl (show pj < 10 by omega) (by decide) dX9_slot_14 ?_
      refine g_val (w := .ref (b.1 6 (wh S pj))) (congrArg va_rf hp0_p) ?_
      refine g_S (As := [.ref (b.1 6 (wh S pj))]) (st := []) hC 1 dX9_slot_15 gX9_slot_X9_tableFault rfl (by decide +kernel) ⟨Nat.le_of_ble_eq_true rfl, Nat.le_of_ble_eq_true rfl⟩ rfl (Nat.le_of_ble_eq_true rfl) ⟨Nat.le_of_ble_eq_true rfl, Nat.le_of_ble_eq_true rfl⟩ (c2 := 0) (s2 := 0) rfl rfl (x_tableFault (some (b.1 6 (wh S pj))) 4 (Or.inr ⟨_, 5, _, rfl, (hx0.T hw_p rfl hb_p), Or.inr (Or.inr (Or.inr (Or.inl ⟨rfl, rfl⟩)))⟩)) ?_
      refine g_istore_n (lv' := [(3, .int (nI 0)), (0, .ref M), (1, .int (nI pj)), (2, .int i)]) hC dX9_slot_18 rfl (by decide) rfl ?_
      refine g_aload_n hC dX9_slot_19 rfl 1 rfl (Or.inr ⟨_, rfl⟩) ?_
      refine g_get hC (by decide +kernel) rfl (hx0.M hM).1 (hx0.M hM).2 0 (by decide) (by decide +kernel) (Or.inl rfl) rfl dX9_slot_20 ?_
      refine g_iload_n hC dX9_slot_23 rfl 2 rfl ?_
      refine g_aald hC 5 rfl (hx0.Mp rfl).1 (hx0.Mp rfl).2 (pj) rfl (show pj < 10 by omega) (by decide) dX9_slot_24 ?_
      refine g_val (w := .ref (b.1 6 (wh S pj))) (congrArg va_rf hp0_p) ?_
      refine g_S (As := [.ref (b.1 6 (wh S pj))]) (st := []) hC 1 dX9_slot_25 gX9_slot_X9_asTable rfl (by decide +kernel) ⟨Nat.le_of_ble_eq_true rfl, Nat.le_of_ble_eq_true rfl⟩ rfl (Nat.le_of_ble_eq_true rfl) ⟨Nat.le_of_ble_eq_true rfl, Nat.le_of_ble_eq_true rfl⟩ (c2 := 0) (s2 := 0) rfl rfl (x_asTable (some (b.1 6 (wh S pj))) 4 (Or.inr ⟨_, 5, _, rfl, (hx0.T hw_p rfl hb_p), Or.inr (Or.inr (Or.inr (Or.inl ⟨rfl, rfl⟩)))⟩)) ?_
      refine g_astore (lv' := [(4, .ref (b.1 6 (wh S pj))), (3, .int (nI 0)), (0, .ref M), (1, .int (nI pj)), (2, .int i)]) hC dX9_slot_28 (by decide) rfl (Or.inr ⟨_, rfl⟩) ?_
      refine g_iload_n hC dX9_slot_30 rfl 1 rfl ?_
      refine g_ifN_ne (a := 0) (tgt := 39) hC dX9_slot_31 (by decide) (by omega) (fun h31 => ?_) (fun h31 => ?_)
      · exfalso; omega
      · refine g_aload hC dX9_slot_34 0 rfl (Or.inr ⟨_, rfl⟩) ?_
        refine g_ifnonnull (o := some (b.1 6 (wh S pj))) (tgt := 45) hC dX9_slot_36 (by decide) (fun a36 h36 => ?_) (fun h36 => ?_)
        · refine g_iload_n hC dX9_slot_45 rfl 4 rfl ?_
          refine g_if_lt (x := i) (tgt := 59) hC dX9_slot_46 (by decide) (fun h46 => ?_) (fun h46 => ?_)
          · refine g_aload_n hC dX9_slot_59 rfl 2 rfl (Or.inr ⟨_, rfl⟩) ?_
            refine g_iconst hC dX9_slot_60 (v := nI 3) (by decide) ?_
            refine g_Vx (As := [.int (nI 3)]) (st := []) hC 1 dX9_slot_61 rfl (hx0.M hM).1 (hx0.M hM).2 gX9_slot_X9_failed rfl (by decide +kernel) ⟨Nat.le_of_ble_eq_true rfl, Nat.le_of_ble_eq_true rfl⟩ rfl (Nat.le_of_ble_eq_true rfl) ⟨(Nat.le_of_ble_eq_true rfl), (Nat.le_of_ble_eq_true rfl)⟩ (c2 := 0) (s2 := 0) rfl rfl (x_failed hx0 M hM 3) (fun v1 L1 f1 hp1 => ?_)
            obtain ⟨rfl, hx1⟩ := hp1
            show gW X vwCl 5 L1 f1 0 0 64 [(4, .ref (b.1 6 (wh S pj))), (3, .int (nI 0)), (0, .ref M), (1, .int (nI pj)), (2, .int i)] [.int (fA 3)]
            have hc_p : castF S pj 4 = 0 := by unfold castF isO; rw [hk_p] <;> decide
            have hE : s_slot S (nI pj) i = (fA 3, (aSc (thS S) 1 3)) := by
              unfold s_slot
              rw [if_pos h4, hpl_p, hc_p, if_neg (show ¬ 0 < 0 by decide), if_neg (show ¬ inR i (S.2.1 15 (wh S pj)) from fun z => by
                have z := (in_R (show S.2.1 15 (wh S pj) < 2 ^ 30 by omega)).mpr z
                have z1 := z.1
                have z2 := z.2
                simp only [Int32.lt_iff_toInt_lt, Int32.le_iff_toInt_le, Int32.toInt_zero] at z1 z2 h46
                omega)] <;> rfl
            exact g_iret hC hR dX9_slot_64 ⟨b, congrArg (fun z => some (Value.int (Prod.fst z))) hE.symm, by rw [hE]; exact hx1, xG.rf⟩
          · refine g_iload_n hC dX9_slot_49 rfl 4 rfl ?_
            refine g_aload hC dX9_slot_50 0 rfl (Or.inr ⟨_, rfl⟩) ?_
            refine g_getN hC (by decide +kernel) rfl (hx0.T hw_p rfl hb_p).1 (hx0.T hw_p rfl hb_p).2 1 (by decide) (gKK_F ("KeptTerms", 185, "KeptTerms$Table", "slots", "[I") (by decide)) (Or.inl rfl) rfl dX9_slot_52 ?_
            refine g_alen hC 2 rfl (hx0.Ts hw_p rfl).1 (hx0.Ts hw_p rfl).2 dX9_slot_55 ?_
            refine g_icmp_lt (x := i) (y := nI (S.2.1 15 (wh S pj))) (tgt := 65) hC dX9_slot_56 (by decide) (fun h56 => ?_) (fun h56 => ?_)
            · have hin : 0 ≤ i ∧ i < nI (S.2.1 15 (wh S pj)) := ⟨by simp only [Int32.lt_iff_toInt_lt, Int32.le_iff_toInt_le, Int32.toInt_zero] at h46 ⊢; omega, h56⟩
              have hR_i := (in_R (show S.2.1 15 (wh S pj) < 2 ^ 30 by omega)).mp hin
              obtain ⟨ij, hij, rfl⟩ := (in_j (show S.2.1 15 (wh S pj) < 2 ^ 30 by omega)).mp hin
              have hpl_i : pl (nI ij) = ij := nI_clamp (by omega)
              refine g_aload hC dX9_slot_65 0 rfl (Or.inr ⟨_, rfl⟩) ?_
              refine g_getN hC (by decide +kernel) rfl (hx0.T hw_p rfl hb_p).1 (hx0.T hw_p rfl hb_p).2 1 (by decide) (gKK_F ("KeptTerms", 185, "KeptTerms$Table", "slots", "[I") (by decide)) (Or.inl rfl) rfl dX9_slot_67 ?_
              refine g_iload_n hC dX9_slot_70 rfl 4 rfl ?_
              refine g_iald hC 2 rfl (hx0.Ts hw_p rfl).1 (hx0.Ts hw_p rfl).2 (ij) rfl (show ij < S.2.1 15 (wh S pj) by omega) (show S.2.1 15 (wh S pj) < 2 ^ 31 by omega) dX9_slot_71 ?_
              have hso := htk.2.2.2.2.2.1 ij hij
              refine g_val (w := .int (if S.2.1 19 (256 * wh S pj + ij) = 0 then -3 else nI (S.2.1 19 (256 * wh S pj + ij) - 1))) (congrArg Value.int (if_pos (show ij < S.2.1 15 (wh S pj) from hij))) ?_
              have hc_p : castF S pj 4 = 0 := by unfold castF isO; rw [hk_p] <;> decide
              have hE : s_slot S (nI pj) (nI ij) = (if S.2.1 19 (256 * wh S pj + ij) = 0 then -3 else nI (S.2.1 19 (256 * wh S pj + ij) - 1), (thS S)) := by
                unfold s_slot
                rw [if_pos h4, hpl_p, hc_p, if_neg (show ¬ 0 < 0 by decide), if_pos hR_i, hpl_i] <;> rfl
              exact g_iret hC hR dX9_slot_72 ⟨b, congrArg (fun z => some (Value.int (Prod.fst z))) hE.symm, by rw [hE]; exact hx0, xG.rf⟩
            · refine g_aload_n hC dX9_slot_59 rfl 2 rfl (Or.inr ⟨_, rfl⟩) ?_
              refine g_iconst hC dX9_slot_60 (v := nI 3) (by decide) ?_
              refine g_Vx (As := [.int (nI 3)]) (st := []) hC 1 dX9_slot_61 rfl (hx0.M hM).1 (hx0.M hM).2 gX9_slot_X9_failed rfl (by decide +kernel) ⟨Nat.le_of_ble_eq_true rfl, Nat.le_of_ble_eq_true rfl⟩ rfl (Nat.le_of_ble_eq_true rfl) ⟨(Nat.le_of_ble_eq_true rfl), (Nat.le_of_ble_eq_true rfl)⟩ (c2 := 0) (s2 := 0) rfl rfl (x_failed hx0 M hM 3) (fun v1 L1 f1 hp1 => ?_)
              obtain ⟨rfl, hx1⟩ := hp1
              show gW X vwCl 5 L1 f1 0 0 64 [(4, .ref (b.1 6 (wh S pj))), (3, .int (nI 0)), (0, .ref M), (1, .int (nI pj)), (2, .int i)] [.int (fA 3)]
              have hc_p : castF S pj 4 = 0 := by unfold castF isO; rw [hk_p] <;> decide
              have hE : s_slot S (nI pj) i = (fA 3, (aSc (thS S) 1 3)) := by
                unfold s_slot
                rw [if_pos h4, hpl_p, hc_p, if_neg (show ¬ 0 < 0 by decide), if_neg (show ¬ inR i (S.2.1 15 (wh S pj)) from fun z => by
                  have z := (in_R (show S.2.1 15 (wh S pj) < 2 ^ 30 by omega)).mpr z
                  have z1 := z.1
                  have z2 := z.2
                  simp only [Int32.lt_iff_toInt_lt, Int32.le_iff_toInt_le, Int32.toInt_zero] at z1 z2 h56
                  omega)] <;> rfl
              exact g_iret hC hR dX9_slot_64 ⟨b, congrArg (fun z => some (Value.int (Prod.fst z))) hE.symm, by rw [hE]; exact hx1, xG.rf⟩
        · cases h36
    · have hw_p : wh S pj < S.1 13 := hI.wt hpj (by omega)
      have hb_p : S.2.1 14 (wh S pj) ≠ 0 := by have := ((hI.2.1 _ hpj).2.2.2.2.2 (by omega)).2; omega
      have hp0_p : plcF (thS S) b pj = some (b.1 6 (wh S pj)) := plc_k hpj hk_p (by decide)
      have htk := hI.tk hw_p
      have htm := htk.2.1
      have hts := htk.sl
      have htk0 := hI0.tk (show wh S pj < (thS S).1 13 from hw_p)
      refine g_aald hC 5 rfl (hx0.Mp rfl).1 (hx0.Mp rfl).2 (pj) rfl (show pj < 10 by omega) (by decide) dX9_slot_14 ?_
      refine g_val (w := .ref (b.1 6 (wh S pj))) (congrArg va_rf hp0_p) ?_
      refine g_S (As := [.ref (b.1 6 (wh S pj))]) (st := []) hC 1 dX9_slot_15 gX9_slot_X9_tableFault rfl (by decide +kernel) ⟨Nat.le_of_ble_eq_true rfl, Nat.le_of_ble_eq_true rfl⟩ rfl (Nat.le_of_ble_eq_true rfl) ⟨Nat.le_of_ble_eq_true rfl, Nat.le_of_ble_eq_true rfl⟩ (c2 := 0) (s2 := 0) rfl rfl (x_tableFault (some (b.1 6 (wh S pj))) 5 (Or.inr ⟨_, 1, _, rfl, (hx0.K hw_p rfl hb_p), Or.inr (Or.inr (Or.inr (Or.inr ⟨rfl, rfl⟩)))⟩)) ?_
      refine g_istore_n (lv' := [(3, .int (nI 0)), (0, .ref M), (1, .int (nI pj)), (2, .int i)]) hC dX9_slot_18 rfl (by decide) rfl ?_
      refine g_aload_n hC dX9_slot_19 rfl 1 rfl (Or.inr ⟨_, rfl⟩) ?_
      refine g_get hC (by decide +kernel) rfl (hx0.M hM).1 (hx0.M hM).2 0 (by decide) (by decide +kernel) (Or.inl rfl) rfl dX9_slot_20 ?_
      refine g_iload_n hC dX9_slot_23 rfl 2 rfl ?_
      refine g_aald hC 5 rfl (hx0.Mp rfl).1 (hx0.Mp rfl).2 (pj) rfl (show pj < 10 by omega) (by decide) dX9_slot_24 ?_
      refine g_val (w := .ref (b.1 6 (wh S pj))) (congrArg va_rf hp0_p) ?_
      refine g_S (As := [.ref (b.1 6 (wh S pj))]) (st := []) hC 1 dX9_slot_25 gX9_slot_X9_asTable rfl (by decide +kernel) ⟨Nat.le_of_ble_eq_true rfl, Nat.le_of_ble_eq_true rfl⟩ rfl (Nat.le_of_ble_eq_true rfl) ⟨Nat.le_of_ble_eq_true rfl, Nat.le_of_ble_eq_true rfl⟩ (c2 := 0) (s2 := 0) rfl rfl (x_asTable (some (b.1 6 (wh S pj))) 5 (Or.inr ⟨_, 1, _, rfl, (hx0.K hw_p rfl hb_p), Or.inr (Or.inr (Or.inr (Or.inr ⟨rfl, rfl⟩)))⟩)) ?_
      refine g_astore (lv' := [(4, .ref (b.1 6 (wh S pj))), (3, .int (nI 0)), (0, .ref M), (1, .int (nI pj)), (2, .int i)]) hC dX9_slot_28 (by decide) rfl (Or.inr ⟨_, rfl⟩) ?_
      refine g_iload_n hC dX9_slot_30 rfl 1 rfl ?_
      refine g_ifN_ne (a := 0) (tgt := 39) hC dX9_slot_31 (by decide) (by omega) (fun h31 => ?_) (fun h31 => ?_)
      · exfalso; omega
      · refine g_aload hC dX9_slot_34 0 rfl (Or.inr ⟨_, rfl⟩) ?_
        refine g_ifnonnull (o := some (b.1 6 (wh S pj))) (tgt := 45) hC dX9_slot_36 (by decide) (fun a36 h36 => ?_) (fun h36 => ?_)
        · refine g_iload_n hC dX9_slot_45 rfl 4 rfl ?_
          refine g_if_lt (x := i) (tgt := 59) hC dX9_slot_46 (by decide) (fun h46 => ?_) (fun h46 => ?_)
          · refine g_aload_n hC dX9_slot_59 rfl 2 rfl (Or.inr ⟨_, rfl⟩) ?_
            refine g_iconst hC dX9_slot_60 (v := nI 3) (by decide) ?_
            refine g_Vx (As := [.int (nI 3)]) (st := []) hC 1 dX9_slot_61 rfl (hx0.M hM).1 (hx0.M hM).2 gX9_slot_X9_failed rfl (by decide +kernel) ⟨Nat.le_of_ble_eq_true rfl, Nat.le_of_ble_eq_true rfl⟩ rfl (Nat.le_of_ble_eq_true rfl) ⟨(Nat.le_of_ble_eq_true rfl), (Nat.le_of_ble_eq_true rfl)⟩ (c2 := 0) (s2 := 0) rfl rfl (x_failed hx0 M hM 3) (fun v1 L1 f1 hp1 => ?_)
            obtain ⟨rfl, hx1⟩ := hp1
            show gW X vwCl 5 L1 f1 0 0 64 [(4, .ref (b.1 6 (wh S pj))), (3, .int (nI 0)), (0, .ref M), (1, .int (nI pj)), (2, .int i)] [.int (fA 3)]
            have hc_p : castF S pj 4 = 0 := by unfold castF isO; rw [hk_p] <;> decide
            have hE : s_slot S (nI pj) i = (fA 3, (aSc (thS S) 1 3)) := by
              unfold s_slot
              rw [if_pos h4, hpl_p, hc_p, if_neg (show ¬ 0 < 0 by decide), if_neg (show ¬ inR i (S.2.1 15 (wh S pj)) from fun z => by
                have z := (in_R (show S.2.1 15 (wh S pj) < 2 ^ 30 by omega)).mpr z
                have z1 := z.1
                have z2 := z.2
                simp only [Int32.lt_iff_toInt_lt, Int32.le_iff_toInt_le, Int32.toInt_zero] at z1 z2 h46
                omega)] <;> rfl
            exact g_iret hC hR dX9_slot_64 ⟨b, congrArg (fun z => some (Value.int (Prod.fst z))) hE.symm, by rw [hE]; exact hx1, xG.rf⟩
          · refine g_iload_n hC dX9_slot_49 rfl 4 rfl ?_
            refine g_aload hC dX9_slot_50 0 rfl (Or.inr ⟨_, rfl⟩) ?_
            refine g_getN hC (by decide +kernel) rfl (hx0.K hw_p rfl hb_p).1 (hx0.K hw_p rfl hb_p).2 1 (by decide) (gKK_F ("KeptTerms", 185, "KeptTerms$Table", "slots", "[I") (by decide)) (Or.inl rfl) rfl dX9_slot_52 ?_
            refine g_alen hC 2 rfl (hx0.Ts hw_p rfl).1 (hx0.Ts hw_p rfl).2 dX9_slot_55 ?_
            refine g_icmp_lt (x := i) (y := nI (S.2.1 15 (wh S pj))) (tgt := 65) hC dX9_slot_56 (by decide) (fun h56 => ?_) (fun h56 => ?_)
            · have hin : 0 ≤ i ∧ i < nI (S.2.1 15 (wh S pj)) := ⟨by simp only [Int32.lt_iff_toInt_lt, Int32.le_iff_toInt_le, Int32.toInt_zero] at h46 ⊢; omega, h56⟩
              have hR_i := (in_R (show S.2.1 15 (wh S pj) < 2 ^ 30 by omega)).mp hin
              obtain ⟨ij, hij, rfl⟩ := (in_j (show S.2.1 15 (wh S pj) < 2 ^ 30 by omega)).mp hin
              have hpl_i : pl (nI ij) = ij := nI_clamp (by omega)
              refine g_aload hC dX9_slot_65 0 rfl (Or.inr ⟨_, rfl⟩) ?_
              refine g_getN hC (by decide +kernel) rfl (hx0.K hw_p rfl hb_p).1 (hx0.K hw_p rfl hb_p).2 1 (by decide) (gKK_F ("KeptTerms", 185, "KeptTerms$Table", "slots", "[I") (by decide)) (Or.inl rfl) rfl dX9_slot_67 ?_
              refine g_iload_n hC dX9_slot_70 rfl 4 rfl ?_
              refine g_iald hC 2 rfl (hx0.Ts hw_p rfl).1 (hx0.Ts hw_p rfl).2 (ij) rfl (show ij < S.2.1 15 (wh S pj) by omega) (show S.2.1 15 (wh S pj) < 2 ^ 31 by omega) dX9_slot_71 ?_
              have hso := htk.2.2.2.2.2.1 ij hij
              refine g_val (w := .int (if S.2.1 19 (256 * wh S pj + ij) = 0 then -3 else nI (S.2.1 19 (256 * wh S pj + ij) - 1))) (congrArg Value.int (if_pos (show ij < S.2.1 15 (wh S pj) from hij))) ?_
              have hc_p : castF S pj 4 = 0 := by unfold castF isO; rw [hk_p] <;> decide
              have hE : s_slot S (nI pj) (nI ij) = (if S.2.1 19 (256 * wh S pj + ij) = 0 then -3 else nI (S.2.1 19 (256 * wh S pj + ij) - 1), (thS S)) := by
                unfold s_slot
                rw [if_pos h4, hpl_p, hc_p, if_neg (show ¬ 0 < 0 by decide), if_pos hR_i, hpl_i] <;> rfl
              exact g_iret hC hR dX9_slot_72 ⟨b, congrArg (fun z => some (Value.int (Prod.fst z))) hE.symm, by rw [hE]; exact hx0, xG.rf⟩
            · refine g_aload_n hC dX9_slot_59 rfl 2 rfl (Or.inr ⟨_, rfl⟩) ?_
              refine g_iconst hC dX9_slot_60 (v := nI 3) (by decide) ?_
              refine g_Vx (As := [.int (nI 3)]) (st := []) hC 1 dX9_slot_61 rfl (hx0.M hM).1 (hx0.M hM).2 gX9_slot_X9_failed rfl (by decide +kernel) ⟨Nat.le_of_ble_eq_true rfl, Nat.le_of_ble_eq_true rfl⟩ rfl (Nat.le_of_ble_eq_true rfl) ⟨(Nat.le_of_ble_eq_true rfl), (Nat.le_of_ble_eq_true rfl)⟩ (c2 := 0) (s2 := 0) rfl rfl (x_failed hx0 M hM 3) (fun v1 L1 f1 hp1 => ?_)
              obtain ⟨rfl, hx1⟩ := hp1
              show gW X vwCl 5 L1 f1 0 0 64 [(4, .ref (b.1 6 (wh S pj))), (3, .int (nI 0)), (0, .ref M), (1, .int (nI pj)), (2, .int i)] [.int (fA 3)]
              have hc_p : castF S pj 4 = 0 := by unfold castF isO; rw [hk_p] <;> decide
              have hE : s_slot S (nI pj) i = (fA 3, (aSc (thS S) 1 3)) := by
                unfold s_slot
                rw [if_pos h4, hpl_p, hc_p, if_neg (show ¬ 0 < 0 by decide), if_neg (show ¬ inR i (S.2.1 15 (wh S pj)) from fun z => by
                  have z := (in_R (show S.2.1 15 (wh S pj) < 2 ^ 30 by omega)).mpr z
                  have z1 := z.1
                  have z2 := z.2
                  simp only [Int32.lt_iff_toInt_lt, Int32.le_iff_toInt_le, Int32.toInt_zero] at z1 z2 h56
                  omega)] <;> rfl
              exact g_iret hC hR dX9_slot_64 ⟨b, congrArg (fun z => some (Value.int (Prod.fst z))) hE.symm, by rw [hE]; exact hx1, xG.rf⟩
        · cases h36
  · refine g_iconst hC dX9_slot_7 (v := (-1)) (by decide) ?_
    have hE : s_slot S p i = ((-1), (thS S)) := by
      unfold s_slot
      rw [if_neg h4] <;> rfl
    exact g_iret hC hR dX9_slot_8 ⟨b, congrArg (fun z => some (Value.int (Prod.fst z))) hE.symm, by rw [hE]; exact hx0, xG.rf⟩
set_option maxRecDepth 20000 in
set_option maxHeartbeats 4000000 in
theorem y_told {S : aS} {b : xB} (hx : xR cy S b L f) (hI : aI S) (M : Nat) (hM : b.1 9 0 = M) (p w : Int32) : gCt l D vwCl (gKK D cy adK adV) yX9_told wsX9_told { frames := 5, cells := 0, slots := 0, locals := 103 } [.ref M, .int p, .int w] L f (xP cy S b (s_told S p w).2 (fun _ => some (.int (s_told S p w).1))) := by
  refine gCt.of gKK_ok (by decide) rfl rfl (fun X hC hR hnm => ?_)
  have hC : gC X l _ D vwCl (cyT cy) (gKK D cy adK adV) cX9_told 5 wsX9_told RX9 := hC
  have hx0 := hx.th0
  have hI0 := hI.th
  show gW X vwCl 5 L f 0 0 0 [(0, .ref M), (1, .int p), (2, .int w)] []
  refine g_iload_n hC dX9_told_0 rfl 1 rfl ?_
  refine g_S (As := [.int p]) (st := []) hC 1 dX9_told_1 gX9_told_X9_isPlace rfl (by decide +kernel) ⟨Nat.le_of_ble_eq_true rfl, Nat.le_of_ble_eq_true rfl⟩ rfl (Nat.le_of_ble_eq_true rfl) ⟨Nat.le_of_ble_eq_true rfl, Nat.le_of_ble_eq_true rfl⟩ (c2 := 0) (s2 := 0) rfl rfl (x_isPlace _) ?_
  refine g_ifB_ne (P := isP p) (tgt := 9) hC dX9_told_4 (by decide) (fun h4 => ?_) (fun h4 => ?_)
  · obtain ⟨pj, hpj, rfl⟩ := isP_j h4
    have hpl_p : pl (nI pj) = pj := nI_clamp (by omega)
    refine g_iload_n hC dX9_told_9 rfl 2 rfl ?_
    refine g_if_lt (x := w) (tgt := 18) hC dX9_told_10 (by decide) (fun h10 => ?_) (fun h10 => ?_)
    · refine g_bipush hC dX9_told_18 (v := (-2)) (by decide) ?_
      have hE : s_told S (nI pj) w = ((-2), (thS S)) := by
        unfold s_told
        rw [if_pos h4, if_neg (show ¬ (nI 0 ≤ w ∧ w ≤ nI 3) by
          have e1 : (nI 0).toInt = 0 := rfl
          have e2 : (nI 3).toInt = 3 := rfl
          intro z
          simp only [Int32.lt_iff_toInt_lt, Int32.le_iff_toInt_le, Int32.toInt_zero] at h10 z
          omega)] <;> rfl
      exact g_iret hC hR dX9_told_20 ⟨b, congrArg (fun z => some (Value.int (Prod.fst z))) hE.symm, by rw [hE]; exact hx0, xG.rf⟩
    · refine g_iload_n hC dX9_told_13 rfl 2 rfl ?_
      refine g_iconst hC dX9_told_14 (v := nI 3) (by decide) ?_
      refine g_icmp_le (x := w) (y := nI 3) (tgt := 21) hC dX9_told_15 (by decide) (fun h15 => ?_) (fun h15 => ?_)
      · have hR_w : nI 0 ≤ w ∧ w ≤ nI 3 := by
          have e1 : (nI 0).toInt = 0 := rfl
          have e2 : (nI 3).toInt = 3 := rfl
          rw [Int32.le_iff_toInt_le, Int32.le_iff_toInt_le]
          simp only [Int32.lt_iff_toInt_lt, Int32.le_iff_toInt_le, Int32.toInt_zero] at h10 h15
          omega
        obtain ⟨wj, hw1, hw2, rfl⟩ := ty_j (lo := 0) (hi := 3) (by decide) hR_w (by decide)
        rcases (show wj = 0 ∨ wj = 1 ∨ wj = 2 ∨ wj = 3 by omega) with rfl | rfl | rfl | rfl
        · have hpl_w : pl (nI 0) = 0 := by decide
          refine g_aload_n hC dX9_told_21 rfl 0 rfl (Or.inr ⟨_, rfl⟩) ?_
          refine g_get hC (by decide +kernel) rfl (hx0.M hM).1 (hx0.M hM).2 0 (by decide) (by decide +kernel) (Or.inl rfl) rfl dX9_told_22 ?_
          refine g_iload_n hC dX9_told_25 rfl 1 rfl ?_
          have h5_p := hI.k5 hpj
          rcases (show kd S pj = 0 ∨ kd S pj = 1 ∨ kd S pj = 2 ∨ kd S pj = 3 ∨ kd S pj = 4 ∨ kd S pj = 5 by omega) with hk_p | hk_p | hk_p | hk_p | hk_p | hk_p
          · have hp0_p : plcF (thS S) b pj = none := plc_0 hpj hk_p
            refine g_aald hC 5 rfl (hx0.Mp rfl).1 (hx0.Mp rfl).2 (pj) rfl (show pj < 10 by omega) (by decide) dX9_told_26 ?_
            refine g_val (w := .null) (congrArg va_rf hp0_p) ?_
            refine g_S (As := [.null]) (st := []) hC 1 dX9_told_27 gX9_told_X9_tableFault rfl (by decide +kernel) ⟨Nat.le_of_ble_eq_true rfl, Nat.le_of_ble_eq_true rfl⟩ rfl (Nat.le_of_ble_eq_true rfl) ⟨Nat.le_of_ble_eq_true rfl, Nat.le_of_ble_eq_true rfl⟩ (c2 := 0) (s2 := 0) rfl rfl (x_tableFault none 0 (Or.inl ⟨rfl, rfl⟩)) ?_
            refine g_istore_n (lv' := [(3, .int (nI 1)), (0, .ref M), (1, .int (nI pj)), (2, .int (nI 0))]) hC dX9_told_30 rfl (by decide) rfl ?_
            refine g_aload_n hC dX9_told_31 rfl 1 rfl (Or.inr ⟨_, rfl⟩) ?_
            refine g_get hC (by decide +kernel) rfl (hx0.M hM).1 (hx0.M hM).2 0 (by decide) (by decide +kernel) (Or.inl rfl) rfl dX9_told_32 ?_
            refine g_iload_n hC dX9_told_35 rfl 2 rfl ?_
            refine g_aald hC 5 rfl (hx0.Mp rfl).1 (hx0.Mp rfl).2 (pj) rfl (show pj < 10 by omega) (by decide) dX9_told_36 ?_
            refine g_val (w := .null) (congrArg va_rf hp0_p) ?_
            refine g_S (As := [.null]) (st := []) hC 1 dX9_told_37 gX9_told_X9_asTable rfl (by decide +kernel) ⟨Nat.le_of_ble_eq_true rfl, Nat.le_of_ble_eq_true rfl⟩ rfl (Nat.le_of_ble_eq_true rfl) ⟨Nat.le_of_ble_eq_true rfl, Nat.le_of_ble_eq_true rfl⟩ (c2 := 0) (s2 := 0) rfl rfl (x_asTable none 0 (Or.inl ⟨rfl, rfl⟩)) ?_
            refine g_astore (lv' := [(4, .null), (3, .int (nI 1)), (0, .ref M), (1, .int (nI pj)), (2, .int (nI 0))]) hC dX9_told_40 (by decide) rfl (Or.inl rfl) ?_
            refine g_iload_n hC dX9_told_42 rfl 1 rfl ?_
            refine g_ifN_ne (a := 1) (tgt := 51) hC dX9_told_43 (by decide) (by omega) (fun h43 => ?_) (fun h43 => ?_)
            · refine g_aload_n hC dX9_told_51 rfl 2 rfl (Or.inr ⟨_, rfl⟩) ?_
              refine g_iload_n hC dX9_told_52 rfl 1 rfl ?_
              refine g_Vx (As := [.int (nI 1)]) (st := []) hC 1 dX9_told_53 rfl (hx0.M hM).1 (hx0.M hM).2 gX9_told_X9_failed rfl (by decide +kernel) ⟨Nat.le_of_ble_eq_true rfl, Nat.le_of_ble_eq_true rfl⟩ rfl (Nat.le_of_ble_eq_true rfl) ⟨(Nat.le_of_ble_eq_true rfl), (Nat.le_of_ble_eq_true rfl)⟩ (c2 := 0) (s2 := 0) rfl rfl (x_failed hx0 M hM 1) (fun v1 L1 f1 hp1 => ?_)
              obtain ⟨rfl, hx1⟩ := hp1
              show gW X vwCl 5 L1 f1 0 0 56 [(4, .null), (3, .int (nI 1)), (0, .ref M), (1, .int (nI pj)), (2, .int (nI 0))] [.int (fA 1)]
              have hc_p : castF S pj 4 = 1 := by unfold castF isO; rw [hk_p] <;> decide
              have hE : s_told S (nI pj) (nI 0) = (fA 1, (aSc (thS S) 1 1)) := by
                unfold s_told
                rw [if_pos h4, if_pos hR_w, hpl_p, hc_p, if_pos (show 0 < 1 by decide)] <;> rfl
              exact g_iret hC hR dX9_told_56 ⟨b, congrArg (fun z => some (Value.int (Prod.fst z))) hE.symm, by rw [hE]; exact hx1, xG.rf⟩
            · exfalso; omega
          · have hw_p : wh S pj < S.1 4 := hI.wl hpj hk_p
            have hp0_p : plcF (thS S) b pj = some (b.1 0 (wh S pj)) := plc_k hpj hk_p (by decide)
            refine g_aald hC 5 rfl (hx0.Mp rfl).1 (hx0.Mp rfl).2 (pj) rfl (show pj < 10 by omega) (by decide) dX9_told_26 ?_
            refine g_val (w := .ref (b.1 0 (wh S pj))) (congrArg va_rf hp0_p) ?_
            refine g_S (As := [.ref (b.1 0 (wh S pj))]) (st := []) hC 1 dX9_told_27 gX9_told_X9_tableFault rfl (by decide +kernel) ⟨Nat.le_of_ble_eq_true rfl, Nat.le_of_ble_eq_true rfl⟩ rfl (Nat.le_of_ble_eq_true rfl) ⟨Nat.le_of_ble_eq_true rfl, Nat.le_of_ble_eq_true rfl⟩ (c2 := 0) (s2 := 0) rfl rfl (x_tableFault (some (b.1 0 (wh S pj))) 1 (Or.inr ⟨_, 0, _, rfl, (hx0.B hw_p rfl), Or.inl ⟨rfl, rfl⟩⟩)) ?_
            refine g_istore_n (lv' := [(3, .int (nI 2)), (0, .ref M), (1, .int (nI pj)), (2, .int (nI 0))]) hC dX9_told_30 rfl (by decide) rfl ?_
            refine g_aload_n hC dX9_told_31 rfl 1 rfl (Or.inr ⟨_, rfl⟩) ?_
            refine g_get hC (by decide +kernel) rfl (hx0.M hM).1 (hx0.M hM).2 0 (by decide) (by decide +kernel) (Or.inl rfl) rfl dX9_told_32 ?_
            refine g_iload_n hC dX9_told_35 rfl 2 rfl ?_
            refine g_aald hC 5 rfl (hx0.Mp rfl).1 (hx0.Mp rfl).2 (pj) rfl (show pj < 10 by omega) (by decide) dX9_told_36 ?_
            refine g_val (w := .ref (b.1 0 (wh S pj))) (congrArg va_rf hp0_p) ?_
            refine g_S (As := [.ref (b.1 0 (wh S pj))]) (st := []) hC 1 dX9_told_37 gX9_told_X9_asTable rfl (by decide +kernel) ⟨Nat.le_of_ble_eq_true rfl, Nat.le_of_ble_eq_true rfl⟩ rfl (Nat.le_of_ble_eq_true rfl) ⟨Nat.le_of_ble_eq_true rfl, Nat.le_of_ble_eq_true rfl⟩ (c2 := 0) (s2 := 0) rfl rfl (x_asTable (some (b.1 0 (wh S pj))) 1 (Or.inr ⟨_, 0, _, rfl, (hx0.B hw_p rfl), Or.inl ⟨rfl, rfl⟩⟩)) ?_
            refine g_astore (lv' := [(4, .null), (3, .int (nI 2)), (0, .ref M), (1, .int (nI pj)), (2, .int (nI 0))]) hC dX9_told_40 (by decide) rfl (Or.inl rfl) ?_
            refine g_iload_n hC dX9_told_42 rfl 1 rfl ?_
            refine g_ifN_ne (a := 2) (tgt := 51) hC dX9_told_43 (by decide) (by omega) (fun h43 => ?_) (fun h43 => ?_)
            · refine g_aload_n hC dX9_told_51 rfl 2 rfl (Or.inr ⟨_, rfl⟩) ?_
              refine g_iload_n hC dX9_told_52 rfl 1 rfl ?_
              refine g_Vx (As := [.int (nI 2)]) (st := []) hC 1 dX9_told_53 rfl (hx0.M hM).1 (hx0.M hM).2 gX9_told_X9_failed rfl (by decide +kernel) ⟨Nat.le_of_ble_eq_true rfl, Nat.le_of_ble_eq_true rfl⟩ rfl (Nat.le_of_ble_eq_true rfl) ⟨(Nat.le_of_ble_eq_true rfl), (Nat.le_of_ble_eq_true rfl)⟩ (c2 := 0) (s2 := 0) rfl rfl (x_failed hx0 M hM 2) (fun v1 L1 f1 hp1 => ?_)
              obtain ⟨rfl, hx1⟩ := hp1
              show gW X vwCl 5 L1 f1 0 0 56 [(4, .null), (3, .int (nI 2)), (0, .ref M), (1, .int (nI pj)), (2, .int (nI 0))] [.int (fA 2)]
              have hc_p : castF S pj 4 = 2 := by unfold castF isO; rw [hk_p] <;> decide
              have hE : s_told S (nI pj) (nI 0) = (fA 2, (aSc (thS S) 1 2)) := by
                unfold s_told
                rw [if_pos h4, if_pos hR_w, hpl_p, hc_p, if_pos (show 0 < 2 by decide)] <;> rfl
              exact g_iret hC hR dX9_told_56 ⟨b, congrArg (fun z => some (Value.int (Prod.fst z))) hE.symm, by rw [hE]; exact hx1, xG.rf⟩
            · exfalso; omega
          · have hw_p : wh S pj < S.1 7 := hI.ws hpj hk_p
            have hp0_p : plcF (thS S) b pj = some (b.1 2 (wh S pj)) := plc_k hpj hk_p (by decide)
            refine g_aald hC 5 rfl (hx0.Mp rfl).1 (hx0.Mp rfl).2 (pj) rfl (show pj < 10 by omega) (by decide) dX9_told_26 ?_
            refine g_val (w := .ref (b.1 2 (wh S pj))) (congrArg va_rf hp0_p) ?_
            refine g_S (As := [.ref (b.1 2 (wh S pj))]) (st := []) hC 1 dX9_told_27 gX9_told_X9_tableFault rfl (by decide +kernel) ⟨Nat.le_of_ble_eq_true rfl, Nat.le_of_ble_eq_true rfl⟩ rfl (Nat.le_of_ble_eq_true rfl) ⟨Nat.le_of_ble_eq_true rfl, Nat.le_of_ble_eq_true rfl⟩ (c2 := 0) (s2 := 0) rfl rfl (x_tableFault (some (b.1 2 (wh S pj))) 2 (Or.inr ⟨_, 4, _, rfl, (hx0.G hw_p rfl), Or.inr (Or.inl ⟨rfl, rfl⟩)⟩)) ?_
            refine g_istore_n (lv' := [(3, .int (nI 2)), (0, .ref M), (1, .int (nI pj)), (2, .int (nI 0))]) hC dX9_told_30 rfl (by decide) rfl ?_
            refine g_aload_n hC dX9_told_31 rfl 1 rfl (Or.inr ⟨_, rfl⟩) ?_
            refine g_get hC (by decide +kernel) rfl (hx0.M hM).1 (hx0.M hM).2 0 (by decide) (by decide +kernel) (Or.inl rfl) rfl dX9_told_32 ?_
            refine g_iload_n hC dX9_told_35 rfl 2 rfl ?_
            refine g_aald hC 5 rfl (hx0.Mp rfl).1 (hx0.Mp rfl).2 (pj) rfl (show pj < 10 by omega) (by decide) dX9_told_36 ?_
            refine g_val (w := .ref (b.1 2 (wh S pj))) (congrArg va_rf hp0_p) ?_
            refine g_S (As := [.ref (b.1 2 (wh S pj))]) (st := []) hC 1 dX9_told_37 gX9_told_X9_asTable rfl (by decide +kernel) ⟨Nat.le_of_ble_eq_true rfl, Nat.le_of_ble_eq_true rfl⟩ rfl (Nat.le_of_ble_eq_true rfl) ⟨Nat.le_of_ble_eq_true rfl, Nat.le_of_ble_eq_true rfl⟩ (c2 := 0) (s2 := 0) rfl rfl (x_asTable (some (b.1 2 (wh S pj))) 2 (Or.inr ⟨_, 4, _, rfl, (hx0.G hw_p rfl), Or.inr (Or.inl ⟨rfl, rfl⟩)⟩)) ?_
            refine g_astore (lv' := [(4, .null), (3, .int (nI 2)), (0, .ref M), (1, .int (nI pj)), (2, .int (nI 0))]) hC dX9_told_40 (by decide) rfl (Or.inl rfl) ?_
            refine g_iload_n hC dX9_told_42 rfl 1 rfl ?_
            refine g_ifN_ne (a := 2) (tgt := 51) hC dX9_told_43 (by decide) (by omega) (fun h43 => ?_) (fun h43 => ?_)
            · refine g_aload_n hC dX9_told_51 rfl 2 rfl (Or.inr ⟨_, rfl⟩) ?_
              refine g_iload_n hC dX9_told_52 rfl 1 rfl ?_
              refine g_Vx (As := [.int (nI 2)]) (st := []) hC 1 dX9_told_53 rfl (hx0.M hM).1 (hx0.M hM).2 gX9_told_X9_failed rfl (by decide +kernel) ⟨Nat.le_of_ble_eq_true rfl, Nat.le_of_ble_eq_true rfl⟩ rfl (Nat.le_of_ble_eq_true rfl) ⟨(Nat.le_of_ble_eq_true rfl), (Nat.le_of_ble_eq_true rfl)⟩ (c2 := 0) (s2 := 0) rfl rfl (x_failed hx0 M hM 2) (fun v1 L1 f1 hp1 => ?_)
              obtain ⟨rfl, hx1⟩ := hp1
              show gW X vwCl 5 L1 f1 0 0 56 [(4, .null), (3, .int (nI 2)), (0, .ref M), (1, .int (nI pj)), (2, .int (nI 0))] [.int (fA 2)]
              have hc_p : castF S pj 4 = 2 := by unfold castF isO; rw [hk_p] <;> decide
              have hE : s_told S (nI pj) (nI 0) = (fA 2, (aSc (thS S) 1 2)) := by
                unfold s_told
                rw [if_pos h4, if_pos hR_w, hpl_p, hc_p, if_pos (show 0 < 2 by decide)] <;> rfl
              exact g_iret hC hR dX9_told_56 ⟨b, congrArg (fun z => some (Value.int (Prod.fst z))) hE.symm, by rw [hE]; exact hx1, xG.rf⟩
            · exfalso; omega
          · have hw_p : wh S pj < S.1 10 := hI.wr hpj hk_p
            have hp0_p : plcF (thS S) b pj = some (b.1 4 (wh S pj)) := plc_k hpj hk_p (by decide)
            refine g_aald hC 5 rfl (hx0.Mp rfl).1 (hx0.Mp rfl).2 (pj) rfl (show pj < 10 by omega) (by decide) dX9_told_26 ?_
            refine g_val (w := .ref (b.1 4 (wh S pj))) (congrArg va_rf hp0_p) ?_
            refine g_S (As := [.ref (b.1 4 (wh S pj))]) (st := []) hC 1 dX9_told_27 gX9_told_X9_tableFault rfl (by decide +kernel) ⟨Nat.le_of_ble_eq_true rfl, Nat.le_of_ble_eq_true rfl⟩ rfl (Nat.le_of_ble_eq_true rfl) ⟨Nat.le_of_ble_eq_true rfl, Nat.le_of_ble_eq_true rfl⟩ (c2 := 0) (s2 := 0) rfl rfl (x_tableFault (some (b.1 4 (wh S pj))) 3 (Or.inr ⟨_, 3, _, rfl, (hx0.W hw_p rfl), Or.inr (Or.inr (Or.inl ⟨rfl, rfl⟩))⟩)) ?_
            refine g_istore_n (lv' := [(3, .int (nI 2)), (0, .ref M), (1, .int (nI pj)), (2, .int (nI 0))]) hC dX9_told_30 rfl (by decide) rfl ?_
            refine g_aload_n hC dX9_told_31 rfl 1 rfl (Or.inr ⟨_, rfl⟩) ?_
            refine g_get hC (by decide +kernel) rfl (hx0.M hM).1 (hx0.M hM).2 0 (by decide) (by decide +kernel) (Or.inl rfl) rfl dX9_told_32 ?_
            refine g_iload_n hC dX9_told_35 rfl 2 rfl ?_
            refine g_aald hC 5 rfl (hx0.Mp rfl).1 (hx0.Mp rfl).2 (pj) rfl (show pj < 10 by omega) (by decide) dX9_told_36 ?_
            refine g_val (w := .ref (b.1 4 (wh S pj))) (congrArg va_rf hp0_p) ?_
            refine g_S (As := [.ref (b.1 4 (wh S pj))]) (st := []) hC 1 dX9_told_37 gX9_told_X9_asTable rfl (by decide +kernel) ⟨Nat.le_of_ble_eq_true rfl, Nat.le_of_ble_eq_true rfl⟩ rfl (Nat.le_of_ble_eq_true rfl) ⟨Nat.le_of_ble_eq_true rfl, Nat.le_of_ble_eq_true rfl⟩ (c2 := 0) (s2 := 0) rfl rfl (x_asTable (some (b.1 4 (wh S pj))) 3 (Or.inr ⟨_, 3, _, rfl, (hx0.W hw_p rfl), Or.inr (Or.inr (Or.inl ⟨rfl, rfl⟩))⟩)) ?_
            refine g_astore (lv' := [(4, .null), (3, .int (nI 2)), (0, .ref M), (1, .int (nI pj)), (2, .int (nI 0))]) hC dX9_told_40 (by decide) rfl (Or.inl rfl) ?_
            refine g_iload_n hC dX9_told_42 rfl 1 rfl ?_
            refine g_ifN_ne (a := 2) (tgt := 51) hC dX9_told_43 (by decide) (by omega) (fun h43 => ?_) (fun h43 => ?_)
            · refine g_aload_n hC dX9_told_51 rfl 2 rfl (Or.inr ⟨_, rfl⟩) ?_
              refine g_iload_n hC dX9_told_52 rfl 1 rfl ?_
              refine g_Vx (As := [.int (nI 2)]) (st := []) hC 1 dX9_told_53 rfl (hx0.M hM).1 (hx0.M hM).2 gX9_told_X9_failed rfl (by decide +kernel) ⟨Nat.le_of_ble_eq_true rfl, Nat.le_of_ble_eq_true rfl⟩ rfl (Nat.le_of_ble_eq_true rfl) ⟨(Nat.le_of_ble_eq_true rfl), (Nat.le_of_ble_eq_true rfl)⟩ (c2 := 0) (s2 := 0) rfl rfl (x_failed hx0 M hM 2) (fun v1 L1 f1 hp1 => ?_)
              obtain ⟨rfl, hx1⟩ := hp1
              show gW X vwCl 5 L1 f1 0 0 56 [(4, .null), (3, .int (nI 2)), (0, .ref M), (1, .int (nI pj)), (2, .int (nI 0))] [.int (fA 2)]
              have hc_p : castF S pj 4 = 2 := by unfold castF isO; rw [hk_p] <;> decide
              have hE : s_told S (nI pj) (nI 0) = (fA 2, (aSc (thS S) 1 2)) := by
                unfold s_told
                rw [if_pos h4, if_pos hR_w, hpl_p, hc_p, if_pos (show 0 < 2 by decide)] <;> rfl
              exact g_iret hC hR dX9_told_56 ⟨b, congrArg (fun z => some (Value.int (Prod.fst z))) hE.symm, by rw [hE]; exact hx1, xG.rf⟩
            · exfalso; omega
          · have hw_p : wh S pj < S.1 13 := hI.wt hpj (by omega)
            have hb_p : S.2.1 14 (wh S pj) = 0 := by have := ((hI.2.1 _ hpj).2.2.2.2.2 (by omega)).2; omega
            have hp0_p : plcF (thS S) b pj = some (b.1 6 (wh S pj)) := plc_k hpj hk_p (by decide)
            have htk := hI.tk hw_p
            have htm := htk.2.1
            have hts := htk.sl
            have htk0 := hI0.tk (show wh S pj < (thS S).1 13 from hw_p)
            refine g_aald hC 5 rfl (hx0.Mp rfl).1 (hx0.Mp rfl).2 (pj) rfl (show pj < 10 by omega) (by decide) dX9_told_26 ?_
            refine g_val (w := .ref (b.1 6 (wh S pj))) (congrArg va_rf hp0_p) ?_
            refine g_S (As := [.ref (b.1 6 (wh S pj))]) (st := []) hC 1 dX9_told_27 gX9_told_X9_tableFault rfl (by decide +kernel) ⟨Nat.le_of_ble_eq_true rfl, Nat.le_of_ble_eq_true rfl⟩ rfl (Nat.le_of_ble_eq_true rfl) ⟨Nat.le_of_ble_eq_true rfl, Nat.le_of_ble_eq_true rfl⟩ (c2 := 0) (s2 := 0) rfl rfl (x_tableFault (some (b.1 6 (wh S pj))) 4 (Or.inr ⟨_, 5, _, rfl, (hx0.T hw_p rfl hb_p), Or.inr (Or.inr (Or.inr (Or.inl ⟨rfl, rfl⟩)))⟩)) ?_
            refine g_istore_n (lv' := [(3, .int (nI 0)), (0, .ref M), (1, .int (nI pj)), (2, .int (nI 0))]) hC dX9_told_30 rfl (by decide) rfl ?_
            refine g_aload_n hC dX9_told_31 rfl 1 rfl (Or.inr ⟨_, rfl⟩) ?_
            refine g_get hC (by decide +kernel) rfl (hx0.M hM).1 (hx0.M hM).2 0 (by decide) (by decide +kernel) (Or.inl rfl) rfl dX9_told_32 ?_
            refine g_iload_n hC dX9_told_35 rfl 2 rfl ?_
            refine g_aald hC 5 rfl (hx0.Mp rfl).1 (hx0.Mp rfl).2 (pj) rfl (show pj < 10 by omega) (by decide) dX9_told_36 ?_
            refine g_val (w := .ref (b.1 6 (wh S pj))) (congrArg va_rf hp0_p) ?_
            refine g_S (As := [.ref (b.1 6 (wh S pj))]) (st := []) hC 1 dX9_told_37 gX9_told_X9_asTable rfl (by decide +kernel) ⟨Nat.le_of_ble_eq_true rfl, Nat.le_of_ble_eq_true rfl⟩ rfl (Nat.le_of_ble_eq_true rfl) ⟨Nat.le_of_ble_eq_true rfl, Nat.le_of_ble_eq_true rfl⟩ (c2 := 0) (s2 := 0) rfl rfl (x_asTable (some (b.1 6 (wh S pj))) 4 (Or.inr ⟨_, 5, _, rfl, (hx0.T hw_p rfl hb_p), Or.inr (Or.inr (Or.inr (Or.inl ⟨rfl, rfl⟩)))⟩)) ?_
            refine g_astore (lv' := [(4, .ref (b.1 6 (wh S pj))), (3, .int (nI 0)), (0, .ref M), (1, .int (nI pj)), (2, .int (nI 0))]) hC dX9_told_40 (by decide) rfl (Or.inr ⟨_, rfl⟩) ?_
            refine g_iload_n hC dX9_told_42 rfl 1 rfl ?_
            refine g_ifN_ne (a := 0) (tgt := 51) hC dX9_told_43 (by decide) (by omega) (fun h43 => ?_) (fun h43 => ?_)
            · exfalso; omega
            · refine g_aload hC dX9_told_46 0 rfl (Or.inr ⟨_, rfl⟩) ?_
              refine g_ifnonnull (o := some (b.1 6 (wh S pj))) (tgt := 57) hC dX9_told_48 (by decide) (fun a48 h48 => ?_) (fun h48 => ?_)
              · refine g_aload hC dX9_told_57 0 rfl (Or.inr ⟨_, rfl⟩) ?_
                refine g_iload_n hC dX9_told_59 rfl 4 rfl ?_
                refine g_V (As := [.int (nI 0)]) (st := []) hC 1 dX9_told_60 rfl (hx0.T hw_p rfl hb_p).1 (hx0.T hw_p rfl hb_p).2 gX9_told_X7_figure rfl (by decide +kernel) ⟨Nat.le_of_ble_eq_true rfl, Nat.le_of_ble_eq_true rfl⟩ rfl (Nat.le_of_ble_eq_true rfl) ⟨Nat.le_of_ble_eq_true rfl, Nat.le_of_ble_eq_true rfl⟩ (c2 := 0) (s2 := 0) rfl rfl (x_figure_T (S := thS S) hx0 _ _ hw_p rfl hb_p 0 (by decide)) ?_
                have hc_p : castF S pj 4 = 0 := by unfold castF isO; rw [hk_p] <;> decide
                have hE : s_told S (nI pj) (nI 0) = (nI (S.2.1 16 (wh S pj)), (thS S)) := by
                  unfold s_told
                  rw [if_pos h4, if_pos hR_w, hpl_p, hc_p, if_neg (show ¬ 0 < 0 by decide), if_pos (show nI 0 = 0 from rfl)] <;> rfl
                exact g_iret hC hR dX9_told_63 ⟨b, congrArg (fun z => some (Value.int (Prod.fst z))) hE.symm, by rw [hE]; exact hx0, xG.rf⟩
              · cases h48
          · have hw_p : wh S pj < S.1 13 := hI.wt hpj (by omega)
            have hb_p : S.2.1 14 (wh S pj) ≠ 0 := by have := ((hI.2.1 _ hpj).2.2.2.2.2 (by omega)).2; omega
            have hp0_p : plcF (thS S) b pj = some (b.1 6 (wh S pj)) := plc_k hpj hk_p (by decide)
            have htk := hI.tk hw_p
            have htm := htk.2.1
            have hts := htk.sl
            have htk0 := hI0.tk (show wh S pj < (thS S).1 13 from hw_p)
            refine g_aald hC 5 rfl (hx0.Mp rfl).1 (hx0.Mp rfl).2 (pj) rfl (show pj < 10 by omega) (by decide) dX9_told_26 ?_
            refine g_val (w := .ref (b.1 6 (wh S pj))) (congrArg va_rf hp0_p) ?_
            refine g_S (As := [.ref (b.1 6 (wh S pj))]) (st := []) hC 1 dX9_told_27 gX9_told_X9_tableFault rfl (by decide +kernel) ⟨Nat.le_of_ble_eq_true rfl, Nat.le_of_ble_eq_true rfl⟩ rfl (Nat.le_of_ble_eq_true rfl) ⟨Nat.le_of_ble_eq_true rfl, Nat.le_of_ble_eq_true rfl⟩ (c2 := 0) (s2 := 0) rfl rfl (x_tableFault (some (b.1 6 (wh S pj))) 5 (Or.inr ⟨_, 1, _, rfl, (hx0.K hw_p rfl hb_p), Or.inr (Or.inr (Or.inr (Or.inr ⟨rfl, rfl⟩)))⟩)) ?_
            refine g_istore_n (lv' := [(3, .int (nI 0)), (0, .ref M), (1, .int (nI pj)), (2, .int (nI 0))]) hC dX9_told_30 rfl (by decide) rfl ?_
            refine g_aload_n hC dX9_told_31 rfl 1 rfl (Or.inr ⟨_, rfl⟩) ?_
            refine g_get hC (by decide +kernel) rfl (hx0.M hM).1 (hx0.M hM).2 0 (by decide) (by decide +kernel) (Or.inl rfl) rfl dX9_told_32 ?_
            refine g_iload_n hC dX9_told_35 rfl 2 rfl ?_
            refine g_aald hC 5 rfl (hx0.Mp rfl).1 (hx0.Mp rfl).2 (pj) rfl (show pj < 10 by omega) (by decide) dX9_told_36 ?_
            refine g_val (w := .ref (b.1 6 (wh S pj))) (congrArg va_rf hp0_p) ?_
            refine g_S (As := [.ref (b.1 6 (wh S pj))]) (st := []) hC 1 dX9_told_37 gX9_told_X9_asTable rfl (by decide +kernel) ⟨Nat.le_of_ble_eq_true rfl, Nat.le_of_ble_eq_true rfl⟩ rfl (Nat.le_of_ble_eq_true rfl) ⟨Nat.le_of_ble_eq_true rfl, Nat.le_of_ble_eq_true rfl⟩ (c2 := 0) (s2 := 0) rfl rfl (x_asTable (some (b.1 6 (wh S pj))) 5 (Or.inr ⟨_, 1, _, rfl, (hx0.K hw_p rfl hb_p), Or.inr (Or.inr (Or.inr (Or.inr ⟨rfl, rfl⟩)))⟩)) ?_
            refine g_astore (lv' := [(4, .ref (b.1 6 (wh S pj))), (3, .int (nI 0)), (0, .ref M), (1, .int (nI pj)), (2, .int (nI 0))]) hC dX9_told_40 (by decide) rfl (Or.inr ⟨_, rfl⟩) ?_
            refine g_iload_n hC dX9_told_42 rfl 1 rfl ?_
            refine g_ifN_ne (a := 0) (tgt := 51) hC dX9_told_43 (by decide) (by omega) (fun h43 => ?_) (fun h43 => ?_)
            · exfalso; omega
            · refine g_aload hC dX9_told_46 0 rfl (Or.inr ⟨_, rfl⟩) ?_
              refine g_ifnonnull (o := some (b.1 6 (wh S pj))) (tgt := 57) hC dX9_told_48 (by decide) (fun a48 h48 => ?_) (fun h48 => ?_)
              · refine g_aload hC dX9_told_57 0 rfl (Or.inr ⟨_, rfl⟩) ?_
                refine g_iload_n hC dX9_told_59 rfl 4 rfl ?_
                refine g_U (As := [.int (nI 0)]) (st := []) hC 1 dX9_told_60 rfl (hx0.K hw_p rfl hb_p).1 (hx0.K hw_p rfl hb_p).2 gX9_told_X7_figure_u182X1 rfl rfl (by decide +kernel) ⟨Nat.le_of_ble_eq_true rfl, Nat.le_of_ble_eq_true rfl⟩ rfl (Nat.le_of_ble_eq_true rfl) ⟨Nat.le_of_ble_eq_true rfl, Nat.le_of_ble_eq_true rfl⟩ (c2 := 0) (s2 := 0) rfl rfl (x_figure_K (S := thS S) hx0 _ _ hw_p rfl hb_p 0 (by decide)) ?_
                have hc_p : castF S pj 4 = 0 := by unfold castF isO; rw [hk_p] <;> decide
                have hE : s_told S (nI pj) (nI 0) = (nI (S.2.1 16 (wh S pj)), (thS S)) := by
                  unfold s_told
                  rw [if_pos h4, if_pos hR_w, hpl_p, hc_p, if_neg (show ¬ 0 < 0 by decide), if_pos (show nI 0 = 0 from rfl)] <;> rfl
                exact g_iret hC hR dX9_told_63 ⟨b, congrArg (fun z => some (Value.int (Prod.fst z))) hE.symm, by rw [hE]; exact hx0, xG.rf⟩
              · cases h48
        · have hpl_w : pl (nI 1) = 1 := by decide
          refine g_aload_n hC dX9_told_21 rfl 0 rfl (Or.inr ⟨_, rfl⟩) ?_
          refine g_get hC (by decide +kernel) rfl (hx0.M hM).1 (hx0.M hM).2 0 (by decide) (by decide +kernel) (Or.inl rfl) rfl dX9_told_22 ?_
          refine g_iload_n hC dX9_told_25 rfl 1 rfl ?_
          have h5_p := hI.k5 hpj
          rcases (show kd S pj = 0 ∨ kd S pj = 1 ∨ kd S pj = 2 ∨ kd S pj = 3 ∨ kd S pj = 4 ∨ kd S pj = 5 by omega) with hk_p | hk_p | hk_p | hk_p | hk_p | hk_p
          · have hp0_p : plcF (thS S) b pj = none := plc_0 hpj hk_p
            refine g_aald hC 5 rfl (hx0.Mp rfl).1 (hx0.Mp rfl).2 (pj) rfl (show pj < 10 by omega) (by decide) dX9_told_26 ?_
            refine g_val (w := .null) (congrArg va_rf hp0_p) ?_
            refine g_S (As := [.null]) (st := []) hC 1 dX9_told_27 gX9_told_X9_tableFault rfl (by decide +kernel) ⟨Nat.le_of_ble_eq_true rfl, Nat.le_of_ble_eq_true rfl⟩ rfl (Nat.le_of_ble_eq_true rfl) ⟨Nat.le_of_ble_eq_true rfl, Nat.le_of_ble_eq_true rfl⟩ (c2 := 0) (s2 := 0) rfl rfl (x_tableFault none 0 (Or.inl ⟨rfl, rfl⟩)) ?_
            refine g_istore_n (lv' := [(3, .int (nI 1)), (0, .ref M), (1, .int (nI pj)), (2, .int (nI 1))]) hC dX9_told_30 rfl (by decide) rfl ?_
            refine g_aload_n hC dX9_told_31 rfl 1 rfl (Or.inr ⟨_, rfl⟩) ?_
            refine g_get hC (by decide +kernel) rfl (hx0.M hM).1 (hx0.M hM).2 0 (by decide) (by decide +kernel) (Or.inl rfl) rfl dX9_told_32 ?_
            refine g_iload_n hC dX9_told_35 rfl 2 rfl ?_
            refine g_aald hC 5 rfl (hx0.Mp rfl).1 (hx0.Mp rfl).2 (pj) rfl (show pj < 10 by omega) (by decide) dX9_told_36 ?_
            refine g_val (w := .null) (congrArg va_rf hp0_p) ?_
            refine g_S (As := [.null]) (st := []) hC 1 dX9_told_37 gX9_told_X9_asTable rfl (by decide +kernel) ⟨Nat.le_of_ble_eq_true rfl, Nat.le_of_ble_eq_true rfl⟩ rfl (Nat.le_of_ble_eq_true rfl) ⟨Nat.le_of_ble_eq_true rfl, Nat.le_of_ble_eq_true rfl⟩ (c2 := 0) (s2 := 0) rfl rfl (x_asTable none 0 (Or.inl ⟨rfl, rfl⟩)) ?_
            refine g_astore (lv' := [(4, .null), (3, .int (nI 1)), (0, .ref M), (1, .int (nI pj)), (2, .int (nI 1))]) hC dX9_told_40 (by decide) rfl (Or.inl rfl) ?_
            refine g_iload_n hC dX9_told_42 rfl 1 rfl ?_
            refine g_ifN_ne (a := 1) (tgt := 51) hC dX9_told_43 (by decide) (by omega) (fun h43 => ?_) (fun h43 => ?_)
            · refine g_aload_n hC dX9_told_51 rfl 2 rfl (Or.inr ⟨_, rfl⟩) ?_
              refine g_iload_n hC dX9_told_52 rfl 1 rfl ?_
              refine g_Vx (As := [.int (nI 1)]) (st := []) hC 1 dX9_told_53 rfl (hx0.M hM).1 (hx0.M hM).2 gX9_told_X9_failed rfl (by decide +kernel) ⟨Nat.le_of_ble_eq_true rfl, Nat.le_of_ble_eq_true rfl⟩ rfl (Nat.le_of_ble_eq_true rfl) ⟨(Nat.le_of_ble_eq_true rfl), (Nat.le_of_ble_eq_true rfl)⟩ (c2 := 0) (s2 := 0) rfl rfl (x_failed hx0 M hM 1) (fun v1 L1 f1 hp1 => ?_)
              obtain ⟨rfl, hx1⟩ := hp1
              show gW X vwCl 5 L1 f1 0 0 56 [(4, .null), (3, .int (nI 1)), (0, .ref M), (1, .int (nI pj)), (2, .int (nI 1))] [.int (fA 1)]
              have hc_p : castF S pj 4 = 1 := by unfold castF isO; rw [hk_p] <;> decide
              have hE : s_told S (nI pj) (nI 1) = (fA 1, (aSc (thS S) 1 1)) := by
                unfold s_told
                rw [if_pos h4, if_pos hR_w, hpl_p, hc_p, if_pos (show 0 < 1 by decide)] <;> rfl
              exact g_iret hC hR dX9_told_56 ⟨b, congrArg (fun z => some (Value.int (Prod.fst z))) hE.symm, by rw [hE]; exact hx1, xG.rf⟩
            · exfalso; omega
          · have hw_p : wh S pj < S.1 4 := hI.wl hpj hk_p
            have hp0_p : plcF (thS S) b pj = some (b.1 0 (wh S pj)) := plc_k hpj hk_p (by decide)
            refine g_aald hC 5 rfl (hx0.Mp rfl).1 (hx0.Mp rfl).2 (pj) rfl (show pj < 10 by omega) (by decide) dX9_told_26 ?_
            refine g_val (w := .ref (b.1 0 (wh S pj))) (congrArg va_rf hp0_p) ?_
            refine g_S (As := [.ref (b.1 0 (wh S pj))]) (st := []) hC 1 dX9_told_27 gX9_told_X9_tableFault rfl (by decide +kernel) ⟨Nat.le_of_ble_eq_true rfl, Nat.le_of_ble_eq_true rfl⟩ rfl (Nat.le_of_ble_eq_true rfl) ⟨Nat.le_of_ble_eq_true rfl, Nat.le_of_ble_eq_true rfl⟩ (c2 := 0) (s2 := 0) rfl rfl (x_tableFault (some (b.1 0 (wh S pj))) 1 (Or.inr ⟨_, 0, _, rfl, (hx0.B hw_p rfl), Or.inl ⟨rfl, rfl⟩⟩)) ?_
            refine g_istore_n (lv' := [(3, .int (nI 2)), (0, .ref M), (1, .int (nI pj)), (2, .int (nI 1))]) hC dX9_told_30 rfl (by decide) rfl ?_
            refine g_aload_n hC dX9_told_31 rfl 1 rfl (Or.inr ⟨_, rfl⟩) ?_
            refine g_get hC (by decide +kernel) rfl (hx0.M hM).1 (hx0.M hM).2 0 (by decide) (by decide +kernel) (Or.inl rfl) rfl dX9_told_32 ?_
            refine g_iload_n hC dX9_told_35 rfl 2 rfl ?_
            refine g_aald hC 5 rfl (hx0.Mp rfl).1 (hx0.Mp rfl).2 (pj) rfl (show pj < 10 by omega) (by decide) dX9_told_36 ?_
            refine g_val (w := .ref (b.1 0 (wh S pj))) (congrArg va_rf hp0_p) ?_
            refine g_S (As := [.ref (b.1 0 (wh S pj))]) (st := []) hC 1 dX9_told_37 gX9_told_X9_asTable rfl (by decide +kernel) ⟨Nat.le_of_ble_eq_true rfl, Nat.le_of_ble_eq_true rfl⟩ rfl (Nat.le_of_ble_eq_true rfl) ⟨Nat.le_of_ble_eq_true rfl, Nat.le_of_ble_eq_true rfl⟩ (c2 := 0) (s2 := 0) rfl rfl (x_asTable (some (b.1 0 (wh S pj))) 1 (Or.inr ⟨_, 0, _, rfl, (hx0.B hw_p rfl), Or.inl ⟨rfl, rfl⟩⟩)) ?_
            refine g_astore (lv' := [(4, .null), (3, .int (nI 2)), (0, .ref M), (1, .int (nI pj)), (2, .int (nI 1))]) hC dX9_told_40 (by decide) rfl (Or.inl rfl) ?_
            refine g_iload_n hC dX9_told_42 rfl 1 rfl ?_
            refine g_ifN_ne (a := 2) (tgt := 51) hC dX9_told_43 (by decide) (by omega) (fun h43 => ?_) (fun h43 => ?_)
            · refine g_aload_n hC dX9_told_51 rfl 2 rfl (Or.inr ⟨_, rfl⟩) ?_
              refine g_iload_n hC dX9_told_52 rfl 1 rfl ?_
              refine g_Vx (As := [.int (nI 2)]) (st := []) hC 1 dX9_told_53 rfl (hx0.M hM).1 (hx0.M hM).2 gX9_told_X9_failed rfl (by decide +kernel) ⟨Nat.le_of_ble_eq_true rfl, Nat.le_of_ble_eq_true rfl⟩ rfl (Nat.le_of_ble_eq_true rfl) ⟨(Nat.le_of_ble_eq_true rfl), (Nat.le_of_ble_eq_true rfl)⟩ (c2 := 0) (s2 := 0) rfl rfl (x_failed hx0 M hM 2) (fun v1 L1 f1 hp1 => ?_)
              obtain ⟨rfl, hx1⟩ := hp1
              show gW X vwCl 5 L1 f1 0 0 56 [(4, .null), (3, .int (nI 2)), (0, .ref M), (1, .int (nI pj)), (2, .int (nI 1))] [.int (fA 2)]
              have hc_p : castF S pj 4 = 2 := by unfold castF isO; rw [hk_p] <;> decide
              have hE : s_told S (nI pj) (nI 1) = (fA 2, (aSc (thS S) 1 2)) := by
                unfold s_told
                rw [if_pos h4, if_pos hR_w, hpl_p, hc_p, if_pos (show 0 < 2 by decide)] <;> rfl
              exact g_iret hC hR dX9_told_56 ⟨b, congrArg (fun z => some (Value.int (Prod.fst z))) hE.symm, by rw [hE]; exact hx1, xG.rf⟩
            · exfalso; omega
          · have hw_p : wh S pj < S.1 7 := hI.ws hpj hk_p
            have hp0_p : plcF (thS S) b pj = some (b.1 2 (wh S pj)) := plc_k hpj hk_p (by decide)
            refine g_aald hC 5 rfl (hx0.Mp rfl).1 (hx0.Mp rfl).2 (pj) rfl (show pj < 10 by omega) (by decide) dX9_told_26 ?_
            refine g_val (w := .ref (b.1 2 (wh S pj))) (congrArg va_rf hp0_p) ?_
            refine g_S (As := [.ref (b.1 2 (wh S pj))]) (st := []) hC 1 dX9_told_27 gX9_told_X9_tableFault rfl (by decide +kernel) ⟨Nat.le_of_ble_eq_true rfl, Nat.le_of_ble_eq_true rfl⟩ rfl (Nat.le_of_ble_eq_true rfl) ⟨Nat.le_of_ble_eq_true rfl, Nat.le_of_ble_eq_true rfl⟩ (c2 := 0) (s2 := 0) rfl rfl (x_tableFault (some (b.1 2 (wh S pj))) 2 (Or.inr ⟨_, 4, _, rfl, (hx0.G hw_p rfl), Or.inr (Or.inl ⟨rfl, rfl⟩)⟩)) ?_
            refine g_istore_n (lv' := [(3, .int (nI 2)), (0, .ref M), (1, .int (nI pj)), (2, .int (nI 1))]) hC dX9_told_30 rfl (by decide) rfl ?_
            refine g_aload_n hC dX9_told_31 rfl 1 rfl (Or.inr ⟨_, rfl⟩) ?_
            refine g_get hC (by decide +kernel) rfl (hx0.M hM).1 (hx0.M hM).2 0 (by decide) (by decide +kernel) (Or.inl rfl) rfl dX9_told_32 ?_
            refine g_iload_n hC dX9_told_35 rfl 2 rfl ?_
            refine g_aald hC 5 rfl (hx0.Mp rfl).1 (hx0.Mp rfl).2 (pj) rfl (show pj < 10 by omega) (by decide) dX9_told_36 ?_
            refine g_val (w := .ref (b.1 2 (wh S pj))) (congrArg va_rf hp0_p) ?_
            refine g_S (As := [.ref (b.1 2 (wh S pj))]) (st := []) hC 1 dX9_told_37 gX9_told_X9_asTable rfl (by decide +kernel) ⟨Nat.le_of_ble_eq_true rfl, Nat.le_of_ble_eq_true rfl⟩ rfl (Nat.le_of_ble_eq_true rfl) ⟨Nat.le_of_ble_eq_true rfl, Nat.le_of_ble_eq_true rfl⟩ (c2 := 0) (s2 := 0) rfl rfl (x_asTable (some (b.1 2 (wh S pj))) 2 (Or.inr ⟨_, 4, _, rfl, (hx0.G hw_p rfl), Or.inr (Or.inl ⟨rfl, rfl⟩)⟩)) ?_
            refine g_astore (lv' := [(4, .null), (3, .int (nI 2)), (0, .ref M), (1, .int (nI pj)), (2, .int (nI 1))]) hC dX9_told_40 (by decide) rfl (Or.inl rfl) ?_
            refine g_iload_n hC dX9_told_42 rfl 1 rfl ?_
            refine g_ifN_ne (a := 2) (tgt := 51) hC dX9_told_43 (by decide) (by omega) (fun h43 => ?_) (fun h43 => ?_)
            · refine g_aload_n hC dX9_told_51 rfl 2 rfl (Or.inr ⟨_, rfl⟩) ?_
              refine g_iload_n hC dX9_told_52 rfl 1 rfl ?_
              refine g_Vx (As := [.int (nI 2)]) (st := []) hC 1 dX9_told_53 rfl (hx0.M hM).1 (hx0.M hM).2 gX9_told_X9_failed rfl (by decide +kernel) ⟨Nat.le_of_ble_eq_true rfl, Nat.le_of_ble_eq_true rfl⟩ rfl (Nat.le_of_ble_eq_true rfl) ⟨(Nat.le_of_ble_eq_true rfl), (Nat.le_of_ble_eq_true rfl)⟩ (c2 := 0) (s2 := 0) rfl rfl (x_failed hx0 M hM 2) (fun v1 L1 f1 hp1 => ?_)
              obtain ⟨rfl, hx1⟩ := hp1
              show gW X vwCl 5 L1 f1 0 0 56 [(4, .null), (3, .int (nI 2)), (0, .ref M), (1, .int (nI pj)), (2, .int (nI 1))] [.int (fA 2)]
              have hc_p : castF S pj 4 = 2 := by unfold castF isO; rw [hk_p] <;> decide
              have hE : s_told S (nI pj) (nI 1) = (fA 2, (aSc (thS S) 1 2)) := by
                unfold s_told
                rw [if_pos h4, if_pos hR_w, hpl_p, hc_p, if_pos (show 0 < 2 by decide)] <;> rfl
              exact g_iret hC hR dX9_told_56 ⟨b, congrArg (fun z => some (Value.int (Prod.fst z))) hE.symm, by rw [hE]; exact hx1, xG.rf⟩
            · exfalso; omega
          · have hw_p : wh S pj < S.1 10 := hI.wr hpj hk_p
            have hp0_p : plcF (thS S) b pj = some (b.1 4 (wh S pj)) := plc_k hpj hk_p (by decide)
            refine g_aald hC 5 rfl (hx0.Mp rfl).1 (hx0.Mp rfl).2 (pj) rfl (show pj < 10 by omega) (by decide) dX9_told_26 ?_
            refine g_val (w := .ref (b.1 4 (wh S pj))) (congrArg va_rf hp0_p) ?_
            refine g_S (As := [.ref (b.1 4 (wh S pj))]) (st := []) hC 1 dX9_told_27 gX9_told_X9_tableFault rfl (by decide +kernel) ⟨Nat.le_of_ble_eq_true rfl, Nat.le_of_ble_eq_true rfl⟩ rfl (Nat.le_of_ble_eq_true rfl) ⟨Nat.le_of_ble_eq_true rfl, Nat.le_of_ble_eq_true rfl⟩ (c2 := 0) (s2 := 0) rfl rfl (x_tableFault (some (b.1 4 (wh S pj))) 3 (Or.inr ⟨_, 3, _, rfl, (hx0.W hw_p rfl), Or.inr (Or.inr (Or.inl ⟨rfl, rfl⟩))⟩)) ?_
            refine g_istore_n (lv' := [(3, .int (nI 2)), (0, .ref M), (1, .int (nI pj)), (2, .int (nI 1))]) hC dX9_told_30 rfl (by decide) rfl ?_
            refine g_aload_n hC dX9_told_31 rfl 1 rfl (Or.inr ⟨_, rfl⟩) ?_
            refine g_get hC (by decide +kernel) rfl (hx0.M hM).1 (hx0.M hM).2 0 (by decide) (by decide +kernel) (Or.inl rfl) rfl dX9_told_32 ?_
            refine g_iload_n hC dX9_told_35 rfl 2 rfl ?_
            refine g_aald hC 5 rfl (hx0.Mp rfl).1 (hx0.Mp rfl).2 (pj) rfl (show pj < 10 by omega) (by decide) dX9_told_36 ?_
            refine g_val (w := .ref (b.1 4 (wh S pj))) (congrArg va_rf hp0_p) ?_
            refine g_S (As := [.ref (b.1 4 (wh S pj))]) (st := []) hC 1 dX9_told_37 gX9_told_X9_asTable rfl (by decide +kernel) ⟨Nat.le_of_ble_eq_true rfl, Nat.le_of_ble_eq_true rfl⟩ rfl (Nat.le_of_ble_eq_true rfl) ⟨Nat.le_of_ble_eq_true rfl, Nat.le_of_ble_eq_true rfl⟩ (c2 := 0) (s2 := 0) rfl rfl (x_asTable (some (b.1 4 (wh S pj))) 3 (Or.inr ⟨_, 3, _, rfl, (hx0.W hw_p rfl), Or.inr (Or.inr (Or.inl ⟨rfl, rfl⟩))⟩)) ?_
            refine g_astore (lv' := [(4, .null), (3, .int (nI 2)), (0, .ref M), (1, .int (nI pj)), (2, .int (nI 1))]) hC dX9_told_40 (by decide) rfl (Or.inl rfl) ?_
            refine g_iload_n hC dX9_told_42 rfl 1 rfl ?_
            refine g_ifN_ne (a := 2) (tgt := 51) hC dX9_told_43 (by decide) (by omega) (fun h43 => ?_) (fun h43 => ?_)
            · refine g_aload_n hC dX9_told_51 rfl 2 rfl (Or.inr ⟨_, rfl⟩) ?_
              refine g_iload_n hC dX9_told_52 rfl 1 rfl ?_
              refine g_Vx (As := [.int (nI 2)]) (st := []) hC 1 dX9_told_53 rfl (hx0.M hM).1 (hx0.M hM).2 gX9_told_X9_failed rfl (by decide +kernel) ⟨Nat.le_of_ble_eq_true rfl, Nat.le_of_ble_eq_true rfl⟩ rfl (Nat.le_of_ble_eq_true rfl) ⟨(Nat.le_of_ble_eq_true rfl), (Nat.le_of_ble_eq_true rfl)⟩ (c2 := 0) (s2 := 0) rfl rfl (x_failed hx0 M hM 2) (fun v1 L1 f1 hp1 => ?_)
              obtain ⟨rfl, hx1⟩ := hp1
              show gW X vwCl 5 L1 f1 0 0 56 [(4, .null), (3, .int (nI 2)), (0, .ref M), (1, .int (nI pj)), (2, .int (nI 1))] [.int (fA 2)]
              have hc_p : castF S pj 4 = 2 := by unfold castF isO; rw [hk_p] <;> decide
              have hE : s_told S (nI pj) (nI 1) = (fA 2, (aSc (thS S) 1 2)) := by
                unfold s_told
                rw [if_pos h4, if_pos hR_w, hpl_p, hc_p, if_pos (show 0 < 2 by decide)] <;> rfl
              exact g_iret hC hR dX9_told_56 ⟨b, congrArg (fun z => some (Value.int (Prod.fst z))) hE.symm, by rw [hE]; exact hx1, xG.rf⟩
            · exfalso; omega
          · have hw_p : wh S pj < S.1 13 := hI.wt hpj (by omega)
            have hb_p : S.2.1 14 (wh S pj) = 0 := by have := ((hI.2.1 _ hpj).2.2.2.2.2 (by omega)).2; omega
            have hp0_p : plcF (thS S) b pj = some (b.1 6 (wh S pj)) := plc_k hpj hk_p (by decide)
            have htk := hI.tk hw_p
            have htm := htk.2.1
            have hts := htk.sl
            have htk0 := hI0.tk (show wh S pj < (thS S).1 13 from hw_p)
            refine g_aald hC 5 rfl (hx0.Mp rfl).1 (hx0.Mp rfl).2 (pj) rfl (show pj < 10 by omega) (by decide) dX9_told_26 ?_
            refine g_val (w := .ref (b.1 6 (wh S pj))) (congrArg va_rf hp0_p) ?_
            refine g_S (As := [.ref (b.1 6 (wh S pj))]) (st := []) hC 1 dX9_told_27 gX9_told_X9_tableFault rfl (by decide +kernel) ⟨Nat.le_of_ble_eq_true rfl, Nat.le_of_ble_eq_true rfl⟩ rfl (Nat.le_of_ble_eq_true rfl) ⟨Nat.le_of_ble_eq_true rfl, Nat.le_of_ble_eq_true rfl⟩ (c2 := 0) (s2 := 0) rfl rfl (x_tableFault (some (b.1 6 (wh S pj))) 4 (Or.inr ⟨_, 5, _, rfl, (hx0.T hw_p rfl hb_p), Or.inr (Or.inr (Or.inr (Or.inl ⟨rfl, rfl⟩)))⟩)) ?_
            refine g_istore_n (lv' := [(3, .int (nI 0)), (0, .ref M), (1, .int (nI pj)), (2, .int (nI 1))]) hC dX9_told_30 rfl (by decide) rfl ?_
            refine g_aload_n hC dX9_told_31 rfl 1 rfl (Or.inr ⟨_, rfl⟩) ?_
            refine g_get hC (by decide +kernel) rfl (hx0.M hM).1 (hx0.M hM).2 0 (by decide) (by decide +kernel) (Or.inl rfl) rfl dX9_told_32 ?_
            refine g_iload_n hC dX9_told_35 rfl 2 rfl ?_
            refine g_aald hC 5 rfl (hx0.Mp rfl).1 (hx0.Mp rfl).2 (pj) rfl (show pj < 10 by omega) (by decide) dX9_told_36 ?_
            refine g_val (w := .ref (b.1 6 (wh S pj))) (congrArg va_rf hp0_p) ?_
            refine g_S (As := [.ref (b.1 6 (wh S pj))]) (st := []) hC 1 dX9_told_37 gX9_told_X9_asTable rfl (by decide +kernel) ⟨Nat.le_of_ble_eq_true rfl, Nat.le_of_ble_eq_true rfl⟩ rfl (Nat.le_of_ble_eq_true rfl) ⟨Nat.le_of_ble_eq_true rfl, Nat.le_of_ble_eq_true rfl⟩ (c2 := 0) (s2 := 0) rfl rfl (x_asTable (some (b.1 6 (wh S pj))) 4 (Or.inr ⟨_, 5, _, rfl, (hx0.T hw_p rfl hb_p), Or.inr (Or.inr (Or.inr (Or.inl ⟨rfl, rfl⟩)))⟩)) ?_
            refine g_astore (lv' := [(4, .ref (b.1 6 (wh S pj))), (3, .int (nI 0)), (0, .ref M), (1, .int (nI pj)), (2, .int (nI 1))]) hC dX9_told_40 (by decide) rfl (Or.inr ⟨_, rfl⟩) ?_
            refine g_iload_n hC dX9_told_42 rfl 1 rfl ?_
            refine g_ifN_ne (a := 0) (tgt := 51) hC dX9_told_43 (by decide) (by omega) (fun h43 => ?_) (fun h43 => ?_)
            · exfalso; omega
            · refine g_aload hC dX9_told_46 0 rfl (Or.inr ⟨_, rfl⟩) ?_
              refine g_ifnonnull (o := some (b.1 6 (wh S pj))) (tgt := 57) hC dX9_told_48 (by decide) (fun a48 h48 => ?_) (fun h48 => ?_)
              · refine g_aload hC dX9_told_57 0 rfl (Or.inr ⟨_, rfl⟩) ?_
                refine g_iload_n hC dX9_told_59 rfl 4 rfl ?_
                refine g_V (As := [.int (nI 1)]) (st := []) hC 1 dX9_told_60 rfl (hx0.T hw_p rfl hb_p).1 (hx0.T hw_p rfl hb_p).2 gX9_told_X7_figure rfl (by decide +kernel) ⟨Nat.le_of_ble_eq_true rfl, Nat.le_of_ble_eq_true rfl⟩ rfl (Nat.le_of_ble_eq_true rfl) ⟨Nat.le_of_ble_eq_true rfl, Nat.le_of_ble_eq_true rfl⟩ (c2 := 0) (s2 := 0) rfl rfl (x_figure_T (S := thS S) hx0 _ _ hw_p rfl hb_p 1 (by decide)) ?_
                have hc_p : castF S pj 4 = 0 := by unfold castF isO; rw [hk_p] <;> decide
                have hE : s_told S (nI pj) (nI 1) = (nI (S.2.1 15 (wh S pj)), (thS S)) := by
                  unfold s_told
                  rw [if_pos h4, if_pos hR_w, hpl_p, hc_p, if_neg (show ¬ 0 < 0 by decide), if_neg (show ¬ nI 1 = 0 by decide), if_pos rfl] <;> rfl
                exact g_iret hC hR dX9_told_63 ⟨b, congrArg (fun z => some (Value.int (Prod.fst z))) hE.symm, by rw [hE]; exact hx0, xG.rf⟩
              · cases h48
          · have hw_p : wh S pj < S.1 13 := hI.wt hpj (by omega)
            have hb_p : S.2.1 14 (wh S pj) ≠ 0 := by have := ((hI.2.1 _ hpj).2.2.2.2.2 (by omega)).2; omega
            have hp0_p : plcF (thS S) b pj = some (b.1 6 (wh S pj)) := plc_k hpj hk_p (by decide)
            have htk := hI.tk hw_p
            have htm := htk.2.1
            have hts := htk.sl
            have htk0 := hI0.tk (show wh S pj < (thS S).1 13 from hw_p)
            refine g_aald hC 5 rfl (hx0.Mp rfl).1 (hx0.Mp rfl).2 (pj) rfl (show pj < 10 by omega) (by decide) dX9_told_26 ?_
            refine g_val (w := .ref (b.1 6 (wh S pj))) (congrArg va_rf hp0_p) ?_
            refine g_S (As := [.ref (b.1 6 (wh S pj))]) (st := []) hC 1 dX9_told_27 gX9_told_X9_tableFault rfl (by decide +kernel) ⟨Nat.le_of_ble_eq_true rfl, Nat.le_of_ble_eq_true rfl⟩ rfl (Nat.le_of_ble_eq_true rfl) ⟨Nat.le_of_ble_eq_true rfl, Nat.le_of_ble_eq_true rfl⟩ (c2 := 0) (s2 := 0) rfl rfl (x_tableFault (some (b.1 6 (wh S pj))) 5 (Or.inr ⟨_, 1, _, rfl, (hx0.K hw_p rfl hb_p), Or.inr (Or.inr (Or.inr (Or.inr ⟨rfl, rfl⟩)))⟩)) ?_
            refine g_istore_n (lv' := [(3, .int (nI 0)), (0, .ref M), (1, .int (nI pj)), (2, .int (nI 1))]) hC dX9_told_30 rfl (by decide) rfl ?_
            refine g_aload_n hC dX9_told_31 rfl 1 rfl (Or.inr ⟨_, rfl⟩) ?_
            refine g_get hC (by decide +kernel) rfl (hx0.M hM).1 (hx0.M hM).2 0 (by decide) (by decide +kernel) (Or.inl rfl) rfl dX9_told_32 ?_
            refine g_iload_n hC dX9_told_35 rfl 2 rfl ?_
            refine g_aald hC 5 rfl (hx0.Mp rfl).1 (hx0.Mp rfl).2 (pj) rfl (show pj < 10 by omega) (by decide) dX9_told_36 ?_
            refine g_val (w := .ref (b.1 6 (wh S pj))) (congrArg va_rf hp0_p) ?_
            refine g_S (As := [.ref (b.1 6 (wh S pj))]) (st := []) hC 1 dX9_told_37 gX9_told_X9_asTable rfl (by decide +kernel) ⟨Nat.le_of_ble_eq_true rfl, Nat.le_of_ble_eq_true rfl⟩ rfl (Nat.le_of_ble_eq_true rfl) ⟨Nat.le_of_ble_eq_true rfl, Nat.le_of_ble_eq_true rfl⟩ (c2 := 0) (s2 := 0) rfl rfl (x_asTable (some (b.1 6 (wh S pj))) 5 (Or.inr ⟨_, 1, _, rfl, (hx0.K hw_p rfl hb_p), Or.inr (Or.inr (Or.inr (Or.inr ⟨rfl, rfl⟩)))⟩)) ?_
            refine g_astore (lv' := [(4, .ref (b.1 6 (wh S pj))), (3, .int (nI 0)), (0, .ref M), (1, .int (nI pj)), (2, .int (nI 1))]) hC dX9_told_40 (by decide) rfl (Or.inr ⟨_, rfl⟩) ?_
            refine g_iload_n hC dX9_told_42 rfl 1 rfl ?_
            refine g_ifN_ne (a := 0) (tgt := 51) hC dX9_told_43 (by decide) (by omega) (fun h43 => ?_) (fun h43 => ?_)
            · exfalso; omega
            · refine g_aload hC dX9_told_46 0 rfl (Or.inr ⟨_, rfl⟩) ?_
              refine g_ifnonnull (o := some (b.1 6 (wh S pj))) (tgt := 57) hC dX9_told_48 (by decide) (fun a48 h48 => ?_) (fun h48 => ?_)
              · refine g_aload hC dX9_told_57 0 rfl (Or.inr ⟨_, rfl⟩) ?_
                refine g_iload_n hC dX9_told_59 rfl 4 rfl ?_
                refine g_U (As := [.int (nI 1)]) (st := []) hC 1 dX9_told_60 rfl (hx0.K hw_p rfl hb_p).1 (hx0.K hw_p rfl hb_p).2 gX9_told_X7_figure_u182X1 rfl rfl (by decide +kernel) ⟨Nat.le_of_ble_eq_true rfl, Nat.le_of_ble_eq_true rfl⟩ rfl (Nat.le_of_ble_eq_true rfl) ⟨Nat.le_of_ble_eq_true rfl, Nat.le_of_ble_eq_true rfl⟩ (c2 := 0) (s2 := 0) rfl rfl (x_figure_K (S := thS S) hx0 _ _ hw_p rfl hb_p 1 (by decide)) ?_
                have hc_p : castF S pj 4 = 0 := by unfold castF isO; rw [hk_p] <;> decide
                have hE : s_told S (nI pj) (nI 1) = (nI (S.2.1 15 (wh S pj)), (thS S)) := by
                  unfold s_told
                  rw [if_pos h4, if_pos hR_w, hpl_p, hc_p, if_neg (show ¬ 0 < 0 by decide), if_neg (show ¬ nI 1 = 0 by decide), if_pos rfl] <;> rfl
                exact g_iret hC hR dX9_told_63 ⟨b, congrArg (fun z => some (Value.int (Prod.fst z))) hE.symm, by rw [hE]; exact hx0, xG.rf⟩
              · cases h48
        · have hpl_w : pl (nI 2) = 2 := by decide
          refine g_aload_n hC dX9_told_21 rfl 0 rfl (Or.inr ⟨_, rfl⟩) ?_
          refine g_get hC (by decide +kernel) rfl (hx0.M hM).1 (hx0.M hM).2 0 (by decide) (by decide +kernel) (Or.inl rfl) rfl dX9_told_22 ?_
          refine g_iload_n hC dX9_told_25 rfl 1 rfl ?_
          have h5_p := hI.k5 hpj
          rcases (show kd S pj = 0 ∨ kd S pj = 1 ∨ kd S pj = 2 ∨ kd S pj = 3 ∨ kd S pj = 4 ∨ kd S pj = 5 by omega) with hk_p | hk_p | hk_p | hk_p | hk_p | hk_p
          · have hp0_p : plcF (thS S) b pj = none := plc_0 hpj hk_p
            refine g_aald hC 5 rfl (hx0.Mp rfl).1 (hx0.Mp rfl).2 (pj) rfl (show pj < 10 by omega) (by decide) dX9_told_26 ?_
            refine g_val (w := .null) (congrArg va_rf hp0_p) ?_
            refine g_S (As := [.null]) (st := []) hC 1 dX9_told_27 gX9_told_X9_tableFault rfl (by decide +kernel) ⟨Nat.le_of_ble_eq_true rfl, Nat.le_of_ble_eq_true rfl⟩ rfl (Nat.le_of_ble_eq_true rfl) ⟨Nat.le_of_ble_eq_true rfl, Nat.le_of_ble_eq_true rfl⟩ (c2 := 0) (s2 := 0) rfl rfl (x_tableFault none 0 (Or.inl ⟨rfl, rfl⟩)) ?_
            refine g_istore_n (lv' := [(3, .int (nI 1)), (0, .ref M), (1, .int (nI pj)), (2, .int (nI 2))]) hC dX9_told_30 rfl (by decide) rfl ?_
            refine g_aload_n hC dX9_told_31 rfl 1 rfl (Or.inr ⟨_, rfl⟩) ?_
            refine g_get hC (by decide +kernel) rfl (hx0.M hM).1 (hx0.M hM).2 0 (by decide) (by decide +kernel) (Or.inl rfl) rfl dX9_told_32 ?_
            refine g_iload_n hC dX9_told_35 rfl 2 rfl ?_
            refine g_aald hC 5 rfl (hx0.Mp rfl).1 (hx0.Mp rfl).2 (pj) rfl (show pj < 10 by omega) (by decide) dX9_told_36 ?_
            refine g_val (w := .null) (congrArg va_rf hp0_p) ?_
            refine g_S (As := [.null]) (st := []) hC 1 dX9_told_37 gX9_told_X9_asTable rfl (by decide +kernel) ⟨Nat.le_of_ble_eq_true rfl, Nat.le_of_ble_eq_true rfl⟩ rfl (Nat.le_of_ble_eq_true rfl) ⟨Nat.le_of_ble_eq_true rfl, Nat.le_of_ble_eq_true rfl⟩ (c2 := 0) (s2 := 0) rfl rfl (x_asTable none 0 (Or.inl ⟨rfl, rfl⟩)) ?_
            refine g_astore (lv' := [(4, .null), (3, .int (nI 1)), (0, .ref M), (1, .int (nI pj)), (2, .int (nI 2))]) hC dX9_told_40 (by decide) rfl (Or.inl rfl) ?_
            refine g_iload_n hC dX9_told_42 rfl 1 rfl ?_
            refine g_ifN_ne (a := 1) (tgt := 51) hC dX9_told_43 (by decide) (by omega) (fun h43 => ?_) (fun h43 => ?_)
            · refine g_aload_n hC dX9_told_51 rfl 2 rfl (Or.inr ⟨_, rfl⟩) ?_
              refine g_iload_n hC dX9_told_52 rfl 1 rfl ?_
              refine g_Vx (As := [.int (nI 1)]) (st := []) hC 1 dX9_told_53 rfl (hx0.M hM).1 (hx0.M hM).2 gX9_told_X9_failed rfl (by decide +kernel) ⟨Nat.le_of_ble_eq_true rfl, Nat.le_of_ble_eq_true rfl⟩ rfl (Nat.le_of_ble_eq_true rfl) ⟨(Nat.le_of_ble_eq_true rfl), (Nat.le_of_ble_eq_true rfl)⟩ (c2 := 0) (s2 := 0) rfl rfl (x_failed hx0 M hM 1) (fun v1 L1 f1 hp1 => ?_)
              obtain ⟨rfl, hx1⟩ := hp1
              show gW X vwCl 5 L1 f1 0 0 56 [(4, .null), (3, .int (nI 1)), (0, .ref M), (1, .int (nI pj)), (2, .int (nI 2))] [.int (fA 1)]
              have hc_p : castF S pj 4 = 1 := by unfold castF isO; rw [hk_p] <;> decide
              have hE : s_told S (nI pj) (nI 2) = (fA 1, (aSc (thS S) 1 1)) := by
                unfold s_told
                rw [if_pos h4, if_pos hR_w, hpl_p, hc_p, if_pos (show 0 < 1 by decide)] <;> rfl
              exact g_iret hC hR dX9_told_56 ⟨b, congrArg (fun z => some (Value.int (Prod.fst z))) hE.symm, by rw [hE]; exact hx1, xG.rf⟩
            · exfalso; omega
          · have hw_p : wh S pj < S.1 4 := hI.wl hpj hk_p
            have hp0_p : plcF (thS S) b pj = some (b.1 0 (wh S pj)) := plc_k hpj hk_p (by decide)
            refine g_aald hC 5 rfl (hx0.Mp rfl).1 (hx0.Mp rfl).2 (pj) rfl (show pj < 10 by omega) (by decide) dX9_told_26 ?_
            refine g_val (w := .ref (b.1 0 (wh S pj))) (congrArg va_rf hp0_p) ?_
            refine g_S (As := [.ref (b.1 0 (wh S pj))]) (st := []) hC 1 dX9_told_27 gX9_told_X9_tableFault rfl (by decide +kernel) ⟨Nat.le_of_ble_eq_true rfl, Nat.le_of_ble_eq_true rfl⟩ rfl (Nat.le_of_ble_eq_true rfl) ⟨Nat.le_of_ble_eq_true rfl, Nat.le_of_ble_eq_true rfl⟩ (c2 := 0) (s2 := 0) rfl rfl (x_tableFault (some (b.1 0 (wh S pj))) 1 (Or.inr ⟨_, 0, _, rfl, (hx0.B hw_p rfl), Or.inl ⟨rfl, rfl⟩⟩)) ?_
            refine g_istore_n (lv' := [(3, .int (nI 2)), (0, .ref M), (1, .int (nI pj)), (2, .int (nI 2))]) hC dX9_told_30 rfl (by decide) rfl ?_
            refine g_aload_n hC dX9_told_31 rfl 1 rfl (Or.inr ⟨_, rfl⟩) ?_
            refine g_get hC (by decide +kernel) rfl (hx0.M hM).1 (hx0.M hM).2 0 (by decide) (by decide +kernel) (Or.inl rfl) rfl dX9_told_32 ?_
            refine g_iload_n hC dX9_told_35 rfl 2 rfl ?_
            refine g_aald hC 5 rfl (hx0.Mp rfl).1 (hx0.Mp rfl).2 (pj) rfl (show pj < 10 by omega) (by decide) dX9_told_36 ?_
            refine g_val (w := .ref (b.1 0 (wh S pj))) (congrArg va_rf hp0_p) ?_
            refine g_S (As := [.ref (b.1 0 (wh S pj))]) (st := []) hC 1 dX9_told_37 gX9_told_X9_asTable rfl (by decide +kernel) ⟨Nat.le_of_ble_eq_true rfl, Nat.le_of_ble_eq_true rfl⟩ rfl (Nat.le_of_ble_eq_true rfl) ⟨Nat.le_of_ble_eq_true rfl, Nat.le_of_ble_eq_true rfl⟩ (c2 := 0) (s2 := 0) rfl rfl (x_asTable (some (b.1 0 (wh S pj))) 1 (Or.inr ⟨_, 0, _, rfl, (hx0.B hw_p rfl), Or.inl ⟨rfl, rfl⟩⟩)) ?_
            refine g_astore (lv' := [(4, .null), (3, .int (nI 2)), (0, .ref M), (1, .int (nI pj)), (2, .int (nI 2))]) hC dX9_told_40 (by decide) rfl (Or.inl rfl) ?_
            refine g_iload_n hC dX9_told_42 rfl 1 rfl ?_
            refine g_ifN_ne (a := 2) (tgt := 51) hC dX9_told_43 (by decide) (by omega) (fun h43 => ?_) (fun h43 => ?_)
            · refine g_aload_n hC dX9_told_51 rfl 2 rfl (Or.inr ⟨_, rfl⟩) ?_
              refine g_iload_n hC dX9_told_52 rfl 1 rfl ?_
              refine g_Vx (As := [.int (nI 2)]) (st := []) hC 1 dX9_told_53 rfl (hx0.M hM).1 (hx0.M hM).2 gX9_told_X9_failed rfl (by decide +kernel) ⟨Nat.le_of_ble_eq_true rfl, Nat.le_of_ble_eq_true rfl⟩ rfl (Nat.le_of_ble_eq_true rfl) ⟨(Nat.le_of_ble_eq_true rfl), (Nat.le_of_ble_eq_true rfl)⟩ (c2 := 0) (s2 := 0) rfl rfl (x_failed hx0 M hM 2) (fun v1 L1 f1 hp1 => ?_)
              obtain ⟨rfl, hx1⟩ := hp1
              show gW X vwCl 5 L1 f1 0 0 56 [(4, .null), (3, .int (nI 2)), (0, .ref M), (1, .int (nI pj)), (2, .int (nI 2))] [.int (fA 2)]
              have hc_p : castF S pj 4 = 2 := by unfold castF isO; rw [hk_p] <;> decide
              have hE : s_told S (nI pj) (nI 2) = (fA 2, (aSc (thS S) 1 2)) := by
                unfold s_told
                rw [if_pos h4, if_pos hR_w, hpl_p, hc_p, if_pos (show 0 < 2 by decide)] <;> rfl
              exact g_iret hC hR dX9_told_56 ⟨b, congrArg (fun z => some (Value.int (Prod.fst z))) hE.symm, by rw [hE]; exact hx1, xG.rf⟩
            · exfalso; omega
          · have hw_p : wh S pj < S.1 7 := hI.ws hpj hk_p
            have hp0_p : plcF (thS S) b pj = some (b.1 2 (wh S pj)) := plc_k hpj hk_p (by decide)
            refine g_aald hC 5 rfl (hx0.Mp rfl).1 (hx0.Mp rfl).2 (pj) rfl (show pj < 10 by omega) (by decide) dX9_told_26 ?_
            refine g_val (w := .ref (b.1 2 (wh S pj))) (congrArg va_rf hp0_p) ?_
            refine g_S (As := [.ref (b.1 2 (wh S pj))]) (st := []) hC 1 dX9_told_27 gX9_told_X9_tableFault rfl (by decide +kernel) ⟨Nat.le_of_ble_eq_true rfl, Nat.le_of_ble_eq_true rfl⟩ rfl (Nat.le_of_ble_eq_true rfl) ⟨Nat.le_of_ble_eq_true rfl, Nat.le_of_ble_eq_true rfl⟩ (c2 := 0) (s2 := 0) rfl rfl (x_tableFault (some (b.1 2 (wh S pj))) 2 (Or.inr ⟨_, 4, _, rfl, (hx0.G hw_p rfl), Or.inr (Or.inl ⟨rfl, rfl⟩)⟩)) ?_
            refine g_istore_n (lv' := [(3, .int (nI 2)), (0, .ref M), (1, .int (nI pj)), (2, .int (nI 2))]) hC dX9_told_30 rfl (by decide) rfl ?_
            refine g_aload_n hC dX9_told_31 rfl 1 rfl (Or.inr ⟨_, rfl⟩) ?_
            refine g_get hC (by decide +kernel) rfl (hx0.M hM).1 (hx0.M hM).2 0 (by decide) (by decide +kernel) (Or.inl rfl) rfl dX9_told_32 ?_
            refine g_iload_n hC dX9_told_35 rfl 2 rfl ?_
            refine g_aald hC 5 rfl (hx0.Mp rfl).1 (hx0.Mp rfl).2 (pj) rfl (show pj < 10 by omega) (by decide) dX9_told_36 ?_
            refine g_val (w := .ref (b.1 2 (wh S pj))) (congrArg va_rf hp0_p) ?_
            refine g_S (As := [.ref (b.1 2 (wh S pj))]) (st := []) hC 1 dX9_told_37 gX9_told_X9_asTable rfl (by decide +kernel) ⟨Nat.le_of_ble_eq_true rfl, Nat.le_of_ble_eq_true rfl⟩ rfl (Nat.le_of_ble_eq_true rfl) ⟨Nat.le_of_ble_eq_true rfl, Nat.le_of_ble_eq_true rfl⟩ (c2 := 0) (s2 := 0) rfl rfl (x_asTable (some (b.1 2 (wh S pj))) 2 (Or.inr ⟨_, 4, _, rfl, (hx0.G hw_p rfl), Or.inr (Or.inl ⟨rfl, rfl⟩)⟩)) ?_
            refine g_astore (lv' := [(4, .null), (3, .int (nI 2)), (0, .ref M), (1, .int (nI pj)), (2, .int (nI 2))]) hC dX9_told_40 (by decide) rfl (Or.inl rfl) ?_
            refine g_iload_n hC dX9_told_42 rfl 1 rfl ?_
            refine g_ifN_ne (a := 2) (tgt := 51) hC dX9_told_43 (by decide) (by omega) (fun h43 => ?_) (fun h43 => ?_)
            · refine g_aload_n hC dX9_told_51 rfl 2 rfl (Or.inr ⟨_, rfl⟩) ?_
              refine g_iload_n hC dX9_told_52 rfl 1 rfl ?_
              refine g_Vx (As := [.int (nI 2)]) (st := []) hC 1 dX9_told_53 rfl (hx0.M hM).1 (hx0.M hM).2 gX9_told_X9_failed rfl (by decide +kernel) ⟨Nat.le_of_ble_eq_true rfl, Nat.le_of_ble_eq_true rfl⟩ rfl (Nat.le_of_ble_eq_true rfl) ⟨(Nat.le_of_ble_eq_true rfl), (Nat.le_of_ble_eq_true rfl)⟩ (c2 := 0) (s2 := 0) rfl rfl (x_failed hx0 M hM 2) (fun v1 L1 f1 hp1 => ?_)
              obtain ⟨rfl, hx1⟩ := hp1
              show gW X vwCl 5 L1 f1 0 0 56 [(4, .null), (3, .int (nI 2)), (0, .ref M), (1, .int (nI pj)), (2, .int (nI 2))] [.int (fA 2)]
              have hc_p : castF S pj 4 = 2 := by unfold castF isO; rw [hk_p] <;> decide
              have hE : s_told S (nI pj) (nI 2) = (fA 2, (aSc (thS S) 1 2)) := by
                unfold s_told
                rw [if_pos h4, if_pos hR_w, hpl_p, hc_p, if_pos (show 0 < 2 by decide)] <;> rfl
              exact g_iret hC hR dX9_told_56 ⟨b, congrArg (fun z => some (Value.int (Prod.fst z))) hE.symm, by rw [hE]; exact hx1, xG.rf⟩
            · exfalso; omega
          · have hw_p : wh S pj < S.1 10 := hI.wr hpj hk_p
            have hp0_p : plcF (thS S) b pj = some (b.1 4 (wh S pj)) := plc_k hpj hk_p (by decide)
            refine g_aald hC 5 rfl (hx0.Mp rfl).1 (hx0.Mp rfl).2 (pj) rfl (show pj < 10 by omega) (by decide) dX9_told_26 ?_
            refine g_val (w := .ref (b.1 4 (wh S pj))) (congrArg va_rf hp0_p) ?_
            refine g_S (As := [.ref (b.1 4 (wh S pj))]) (st := []) hC 1 dX9_told_27 gX9_told_X9_tableFault rfl (by decide +kernel) ⟨Nat.le_of_ble_eq_true rfl, Nat.le_of_ble_eq_true rfl⟩ rfl (Nat.le_of_ble_eq_true rfl) ⟨Nat.le_of_ble_eq_true rfl, Nat.le_of_ble_eq_true rfl⟩ (c2 := 0) (s2 := 0) rfl rfl (x_tableFault (some (b.1 4 (wh S pj))) 3 (Or.inr ⟨_, 3, _, rfl, (hx0.W hw_p rfl), Or.inr (Or.inr (Or.inl ⟨rfl, rfl⟩))⟩)) ?_
            refine g_istore_n (lv' := [(3, .int (nI 2)), (0, .ref M), (1, .int (nI pj)), (2, .int (nI 2))]) hC dX9_told_30 rfl (by decide) rfl ?_
            refine g_aload_n hC dX9_told_31 rfl 1 rfl (Or.inr ⟨_, rfl⟩) ?_
            refine g_get hC (by decide +kernel) rfl (hx0.M hM).1 (hx0.M hM).2 0 (by decide) (by decide +kernel) (Or.inl rfl) rfl dX9_told_32 ?_
            refine g_iload_n hC dX9_told_35 rfl 2 rfl ?_
            refine g_aald hC 5 rfl (hx0.Mp rfl).1 (hx0.Mp rfl).2 (pj) rfl (show pj < 10 by omega) (by decide) dX9_told_36 ?_
            refine g_val (w := .ref (b.1 4 (wh S pj))) (congrArg va_rf hp0_p) ?_
            refine g_S (As := [.ref (b.1 4 (wh S pj))]) (st := []) hC 1 dX9_told_37 gX9_told_X9_asTable rfl (by decide +kernel) ⟨Nat.le_of_ble_eq_true rfl, Nat.le_of_ble_eq_true rfl⟩ rfl (Nat.le_of_ble_eq_true rfl) ⟨Nat.le_of_ble_eq_true rfl, Nat.le_of_ble_eq_true rfl⟩ (c2 := 0) (s2 := 0) rfl rfl (x_asTable (some (b.1 4 (wh S pj))) 3 (Or.inr ⟨_, 3, _, rfl, (hx0.W hw_p rfl), Or.inr (Or.inr (Or.inl ⟨rfl, rfl⟩))⟩)) ?_
            refine g_astore (lv' := [(4, .null), (3, .int (nI 2)), (0, .ref M), (1, .int (nI pj)), (2, .int (nI 2))]) hC dX9_told_40 (by decide) rfl (Or.inl rfl) ?_
            refine g_iload_n hC dX9_told_42 rfl 1 rfl ?_
            refine g_ifN_ne (a := 2) (tgt := 51) hC dX9_told_43 (by decide) (by omega) (fun h43 => ?_) (fun h43 => ?_)
            · refine g_aload_n hC dX9_told_51 rfl 2 rfl (Or.inr ⟨_, rfl⟩) ?_
              refine g_iload_n hC dX9_told_52 rfl 1 rfl ?_
              refine g_Vx (As := [.int (nI 2)]) (st := []) hC 1 dX9_told_53 rfl (hx0.M hM).1 (hx0.M hM).2 gX9_told_X9_failed rfl (by decide +kernel) ⟨Nat.le_of_ble_eq_true rfl, Nat.le_of_ble_eq_true rfl⟩ rfl (Nat.le_of_ble_eq_true rfl) ⟨(Nat.le_of_ble_eq_true rfl), (Nat.le_of_ble_eq_true rfl)⟩ (c2 := 0) (s2 := 0) rfl rfl (x_failed hx0 M hM 2) (fun v1 L1 f1 hp1 => ?_)
              obtain ⟨rfl, hx1⟩ := hp1
              show gW X vwCl 5 L1 f1 0 0 56 [(4, .null), (3, .int (nI 2)), (0, .ref M), (1, .int (nI pj)), (2, .int (nI 2))] [.int (fA 2)]
              have hc_p : castF S pj 4 = 2 := by unfold castF isO; rw [hk_p] <;> decide
              have hE : s_told S (nI pj) (nI 2) = (fA 2, (aSc (thS S) 1 2)) := by
                unfold s_told
                rw [if_pos h4, if_pos hR_w, hpl_p, hc_p, if_pos (show 0 < 2 by decide)] <;> rfl
              exact g_iret hC hR dX9_told_56 ⟨b, congrArg (fun z => some (Value.int (Prod.fst z))) hE.symm, by rw [hE]; exact hx1, xG.rf⟩
            · exfalso; omega
          · have hw_p : wh S pj < S.1 13 := hI.wt hpj (by omega)
            have hb_p : S.2.1 14 (wh S pj) = 0 := by have := ((hI.2.1 _ hpj).2.2.2.2.2 (by omega)).2; omega
            have hp0_p : plcF (thS S) b pj = some (b.1 6 (wh S pj)) := plc_k hpj hk_p (by decide)
            have htk := hI.tk hw_p
            have htm := htk.2.1
            have hts := htk.sl
            have htk0 := hI0.tk (show wh S pj < (thS S).1 13 from hw_p)
            refine g_aald hC 5 rfl (hx0.Mp rfl).1 (hx0.Mp rfl).2 (pj) rfl (show pj < 10 by omega) (by decide) dX9_told_26 ?_
            refine g_val (w := .ref (b.1 6 (wh S pj))) (congrArg va_rf hp0_p) ?_
            refine g_S (As := [.ref (b.1 6 (wh S pj))]) (st := []) hC 1 dX9_told_27 gX9_told_X9_tableFault rfl (by decide +kernel) ⟨Nat.le_of_ble_eq_true rfl, Nat.le_of_ble_eq_true rfl⟩ rfl (Nat.le_of_ble_eq_true rfl) ⟨Nat.le_of_ble_eq_true rfl, Nat.le_of_ble_eq_true rfl⟩ (c2 := 0) (s2 := 0) rfl rfl (x_tableFault (some (b.1 6 (wh S pj))) 4 (Or.inr ⟨_, 5, _, rfl, (hx0.T hw_p rfl hb_p), Or.inr (Or.inr (Or.inr (Or.inl ⟨rfl, rfl⟩)))⟩)) ?_
            refine g_istore_n (lv' := [(3, .int (nI 0)), (0, .ref M), (1, .int (nI pj)), (2, .int (nI 2))]) hC dX9_told_30 rfl (by decide) rfl ?_
            refine g_aload_n hC dX9_told_31 rfl 1 rfl (Or.inr ⟨_, rfl⟩) ?_
            refine g_get hC (by decide +kernel) rfl (hx0.M hM).1 (hx0.M hM).2 0 (by decide) (by decide +kernel) (Or.inl rfl) rfl dX9_told_32 ?_
            refine g_iload_n hC dX9_told_35 rfl 2 rfl ?_
            refine g_aald hC 5 rfl (hx0.Mp rfl).1 (hx0.Mp rfl).2 (pj) rfl (show pj < 10 by omega) (by decide) dX9_told_36 ?_
            refine g_val (w := .ref (b.1 6 (wh S pj))) (congrArg va_rf hp0_p) ?_
            refine g_S (As := [.ref (b.1 6 (wh S pj))]) (st := []) hC 1 dX9_told_37 gX9_told_X9_asTable rfl (by decide +kernel) ⟨Nat.le_of_ble_eq_true rfl, Nat.le_of_ble_eq_true rfl⟩ rfl (Nat.le_of_ble_eq_true rfl) ⟨Nat.le_of_ble_eq_true rfl, Nat.le_of_ble_eq_true rfl⟩ (c2 := 0) (s2 := 0) rfl rfl (x_asTable (some (b.1 6 (wh S pj))) 4 (Or.inr ⟨_, 5, _, rfl, (hx0.T hw_p rfl hb_p), Or.inr (Or.inr (Or.inr (Or.inl ⟨rfl, rfl⟩)))⟩)) ?_
            refine g_astore (lv' := [(4, .ref (b.1 6 (wh S pj))), (3, .int (nI 0)), (0, .ref M), (1, .int (nI pj)), (2, .int (nI 2))]) hC dX9_told_40 (by decide) rfl (Or.inr ⟨_, rfl⟩) ?_
            refine g_iload_n hC dX9_told_42 rfl 1 rfl ?_
            refine g_ifN_ne (a := 0) (tgt := 51) hC dX9_told_43 (by decide) (by omega) (fun h43 => ?_) (fun h43 => ?_)
            · exfalso; omega
            · refine g_aload hC dX9_told_46 0 rfl (Or.inr ⟨_, rfl⟩) ?_
              refine g_ifnonnull (o := some (b.1 6 (wh S pj))) (tgt := 57) hC dX9_told_48 (by decide) (fun a48 h48 => ?_) (fun h48 => ?_)
              · refine g_aload hC dX9_told_57 0 rfl (Or.inr ⟨_, rfl⟩) ?_
                refine g_iload_n hC dX9_told_59 rfl 4 rfl ?_
                refine g_V (As := [.int (nI 2)]) (st := []) hC 1 dX9_told_60 rfl (hx0.T hw_p rfl hb_p).1 (hx0.T hw_p rfl hb_p).2 gX9_told_X7_figure rfl (by decide +kernel) ⟨Nat.le_of_ble_eq_true rfl, Nat.le_of_ble_eq_true rfl⟩ rfl (Nat.le_of_ble_eq_true rfl) ⟨Nat.le_of_ble_eq_true rfl, Nat.le_of_ble_eq_true rfl⟩ (c2 := 0) (s2 := 0) rfl rfl (x_figure_T (S := thS S) hx0 _ _ hw_p rfl hb_p 2 (by decide)) ?_
                have hc_p : castF S pj 4 = 0 := by unfold castF isO; rw [hk_p] <;> decide
                have hE : s_told S (nI pj) (nI 2) = (nI (S.2.1 17 (wh S pj)), (thS S)) := by
                  unfold s_told
                  rw [if_pos h4, if_pos hR_w, hpl_p, hc_p, if_neg (show ¬ 0 < 0 by decide), if_neg (show ¬ nI 2 = 0 by decide), if_neg (show ¬ nI 2 = nI 1 by decide), if_pos rfl] <;> rfl
                exact g_iret hC hR dX9_told_63 ⟨b, congrArg (fun z => some (Value.int (Prod.fst z))) hE.symm, by rw [hE]; exact hx0, xG.rf⟩
              · cases h48
          · have hw_p : wh S pj < S.1 13 := hI.wt hpj (by omega)
            have hb_p : S.2.1 14 (wh S pj) ≠ 0 := by have := ((hI.2.1 _ hpj).2.2.2.2.2 (by omega)).2; omega
            have hp0_p : plcF (thS S) b pj = some (b.1 6 (wh S pj)) := plc_k hpj hk_p (by decide)
            have htk := hI.tk hw_p
            have htm := htk.2.1
            have hts := htk.sl
            have htk0 := hI0.tk (show wh S pj < (thS S).1 13 from hw_p)
            refine g_aald hC 5 rfl (hx0.Mp rfl).1 (hx0.Mp rfl).2 (pj) rfl (show pj < 10 by omega) (by decide) dX9_told_26 ?_
            refine g_val (w := .ref (b.1 6 (wh S pj))) (congrArg va_rf hp0_p) ?_
            refine g_S (As := [.ref (b.1 6 (wh S pj))]) (st := []) hC 1 dX9_told_27 gX9_told_X9_tableFault rfl (by decide +kernel) ⟨Nat.le_of_ble_eq_true rfl, Nat.le_of_ble_eq_true rfl⟩ rfl (Nat.le_of_ble_eq_true rfl) ⟨Nat.le_of_ble_eq_true rfl, Nat.le_of_ble_eq_true rfl⟩ (c2 := 0) (s2 := 0) rfl rfl (x_tableFault (some (b.1 6 (wh S pj))) 5 (Or.inr ⟨_, 1, _, rfl, (hx0.K hw_p rfl hb_p), Or.inr (Or.inr (Or.inr (Or.inr ⟨rfl, rfl⟩)))⟩)) ?_
            refine g_istore_n (lv' := [(3, .int (nI 0)), (0, .ref M), (1, .int (nI pj)), (2, .int (nI 2))]) hC dX9_told_30 rfl (by decide) rfl ?_
            refine g_aload_n hC dX9_told_31 rfl 1 rfl (Or.inr ⟨_, rfl⟩) ?_
            refine g_get hC (by decide +kernel) rfl (hx0.M hM).1 (hx0.M hM).2 0 (by decide) (by decide +kernel) (Or.inl rfl) rfl dX9_told_32 ?_
            refine g_iload_n hC dX9_told_35 rfl 2 rfl ?_
            refine g_aald hC 5 rfl (hx0.Mp rfl).1 (hx0.Mp rfl).2 (pj) rfl (show pj < 10 by omega) (by decide) dX9_told_36 ?_
            refine g_val (w := .ref (b.1 6 (wh S pj))) (congrArg va_rf hp0_p) ?_
            refine g_S (As := [.ref (b.1 6 (wh S pj))]) (st := []) hC 1 dX9_told_37 gX9_told_X9_asTable rfl (by decide +kernel) ⟨Nat.le_of_ble_eq_true rfl, Nat.le_of_ble_eq_true rfl⟩ rfl (Nat.le_of_ble_eq_true rfl) ⟨Nat.le_of_ble_eq_true rfl, Nat.le_of_ble_eq_true rfl⟩ (c2 := 0) (s2 := 0) rfl rfl (x_asTable (some (b.1 6 (wh S pj))) 5 (Or.inr ⟨_, 1, _, rfl, (hx0.K hw_p rfl hb_p), Or.inr (Or.inr (Or.inr (Or.inr ⟨rfl, rfl⟩)))⟩)) ?_
            refine g_astore (lv' := [(4, .ref (b.1 6 (wh S pj))), (3, .int (nI 0)), (0, .ref M), (1, .int (nI pj)), (2, .int (nI 2))]) hC dX9_told_40 (by decide) rfl (Or.inr ⟨_, rfl⟩) ?_
            refine g_iload_n hC dX9_told_42 rfl 1 rfl ?_
            refine g_ifN_ne (a := 0) (tgt := 51) hC dX9_told_43 (by decide) (by omega) (fun h43 => ?_) (fun h43 => ?_)
            · exfalso; omega
            · refine g_aload hC dX9_told_46 0 rfl (Or.inr ⟨_, rfl⟩) ?_
              refine g_ifnonnull (o := some (b.1 6 (wh S pj))) (tgt := 57) hC dX9_told_48 (by decide) (fun a48 h48 => ?_) (fun h48 => ?_)
              · refine g_aload hC dX9_told_57 0 rfl (Or.inr ⟨_, rfl⟩) ?_
                refine g_iload_n hC dX9_told_59 rfl 4 rfl ?_
                refine g_U (As := [.int (nI 2)]) (st := []) hC 1 dX9_told_60 rfl (hx0.K hw_p rfl hb_p).1 (hx0.K hw_p rfl hb_p).2 gX9_told_X7_figure_u182X1 rfl rfl (by decide +kernel) ⟨Nat.le_of_ble_eq_true rfl, Nat.le_of_ble_eq_true rfl⟩ rfl (Nat.le_of_ble_eq_true rfl) ⟨Nat.le_of_ble_eq_true rfl, Nat.le_of_ble_eq_true rfl⟩ (c2 := 0) (s2 := 0) rfl rfl (x_figure_K (S := thS S) hx0 _ _ hw_p rfl hb_p 2 (by decide)) ?_
                have hc_p : castF S pj 4 = 0 := by unfold castF isO; rw [hk_p] <;> decide
                have hE : s_told S (nI pj) (nI 2) = (nI (S.2.1 17 (wh S pj)), (thS S)) := by
                  unfold s_told
                  rw [if_pos h4, if_pos hR_w, hpl_p, hc_p, if_neg (show ¬ 0 < 0 by decide), if_neg (show ¬ nI 2 = 0 by decide), if_neg (show ¬ nI 2 = nI 1 by decide), if_pos rfl] <;> rfl
                exact g_iret hC hR dX9_told_63 ⟨b, congrArg (fun z => some (Value.int (Prod.fst z))) hE.symm, by rw [hE]; exact hx0, xG.rf⟩
              · cases h48
        · have hpl_w : pl (nI 3) = 3 := by decide
          refine g_aload_n hC dX9_told_21 rfl 0 rfl (Or.inr ⟨_, rfl⟩) ?_
          refine g_get hC (by decide +kernel) rfl (hx0.M hM).1 (hx0.M hM).2 0 (by decide) (by decide +kernel) (Or.inl rfl) rfl dX9_told_22 ?_
          refine g_iload_n hC dX9_told_25 rfl 1 rfl ?_
          have h5_p := hI.k5 hpj
          rcases (show kd S pj = 0 ∨ kd S pj = 1 ∨ kd S pj = 2 ∨ kd S pj = 3 ∨ kd S pj = 4 ∨ kd S pj = 5 by omega) with hk_p | hk_p | hk_p | hk_p | hk_p | hk_p
          · have hp0_p : plcF (thS S) b pj = none := plc_0 hpj hk_p
            refine g_aald hC 5 rfl (hx0.Mp rfl).1 (hx0.Mp rfl).2 (pj) rfl (show pj < 10 by omega) (by decide) dX9_told_26 ?_
            refine g_val (w := .null) (congrArg va_rf hp0_p) ?_
            refine g_S (As := [.null]) (st := []) hC 1 dX9_told_27 gX9_told_X9_tableFault rfl (by decide +kernel) ⟨Nat.le_of_ble_eq_true rfl, Nat.le_of_ble_eq_true rfl⟩ rfl (Nat.le_of_ble_eq_true rfl) ⟨Nat.le_of_ble_eq_true rfl, Nat.le_of_ble_eq_true rfl⟩ (c2 := 0) (s2 := 0) rfl rfl (x_tableFault none 0 (Or.inl ⟨rfl, rfl⟩)) ?_
            refine g_istore_n (lv' := [(3, .int (nI 1)), (0, .ref M), (1, .int (nI pj)), (2, .int (nI 3))]) hC dX9_told_30 rfl (by decide) rfl ?_
            refine g_aload_n hC dX9_told_31 rfl 1 rfl (Or.inr ⟨_, rfl⟩) ?_
            refine g_get hC (by decide +kernel) rfl (hx0.M hM).1 (hx0.M hM).2 0 (by decide) (by decide +kernel) (Or.inl rfl) rfl dX9_told_32 ?_
            refine g_iload_n hC dX9_told_35 rfl 2 rfl ?_
            refine g_aald hC 5 rfl (hx0.Mp rfl).1 (hx0.Mp rfl).2 (pj) rfl (show pj < 10 by omega) (by decide) dX9_told_36 ?_
            refine g_val (w := .null) (congrArg va_rf hp0_p) ?_
            refine g_S (As := [.null]) (st := []) hC 1 dX9_told_37 gX9_told_X9_asTable rfl (by decide +kernel) ⟨Nat.le_of_ble_eq_true rfl, Nat.le_of_ble_eq_true rfl⟩ rfl (Nat.le_of_ble_eq_true rfl) ⟨Nat.le_of_ble_eq_true rfl, Nat.le_of_ble_eq_true rfl⟩ (c2 := 0) (s2 := 0) rfl rfl (x_asTable none 0 (Or.inl ⟨rfl, rfl⟩)) ?_
            refine g_astore (lv' := [(4, .null), (3, .int (nI 1)), (0, .ref M), (1, .int (nI pj)), (2, .int (nI 3))]) hC dX9_told_40 (by decide) rfl (Or.inl rfl) ?_
            refine g_iload_n hC dX9_told_42 rfl 1 rfl ?_
            refine g_ifN_ne (a := 1) (tgt := 51) hC dX9_told_43 (by decide) (by omega) (fun h43 => ?_) (fun h43 => ?_)
            · refine g_aload_n hC dX9_told_51 rfl 2 rfl (Or.inr ⟨_, rfl⟩) ?_
              refine g_iload_n hC dX9_told_52 rfl 1 rfl ?_
              refine g_Vx (As := [.int (nI 1)]) (st := []) hC 1 dX9_told_53 rfl (hx0.M hM).1 (hx0.M hM).2 gX9_told_X9_failed rfl (by decide +kernel) ⟨Nat.le_of_ble_eq_true rfl, Nat.le_of_ble_eq_true rfl⟩ rfl (Nat.le_of_ble_eq_true rfl) ⟨(Nat.le_of_ble_eq_true rfl), (Nat.le_of_ble_eq_true rfl)⟩ (c2 := 0) (s2 := 0) rfl rfl (x_failed hx0 M hM 1) (fun v1 L1 f1 hp1 => ?_)
              obtain ⟨rfl, hx1⟩ := hp1
              show gW X vwCl 5 L1 f1 0 0 56 [(4, .null), (3, .int (nI 1)), (0, .ref M), (1, .int (nI pj)), (2, .int (nI 3))] [.int (fA 1)]
              have hc_p : castF S pj 4 = 1 := by unfold castF isO; rw [hk_p] <;> decide
              have hE : s_told S (nI pj) (nI 3) = (fA 1, (aSc (thS S) 1 1)) := by
                unfold s_told
                rw [if_pos h4, if_pos hR_w, hpl_p, hc_p, if_pos (show 0 < 1 by decide)] <;> rfl
              exact g_iret hC hR dX9_told_56 ⟨b, congrArg (fun z => some (Value.int (Prod.fst z))) hE.symm, by rw [hE]; exact hx1, xG.rf⟩
            · exfalso; omega
          · have hw_p : wh S pj < S.1 4 := hI.wl hpj hk_p
            have hp0_p : plcF (thS S) b pj = some (b.1 0 (wh S pj)) := plc_k hpj hk_p (by decide)
            refine g_aald hC 5 rfl (hx0.Mp rfl).1 (hx0.Mp rfl).2 (pj) rfl (show pj < 10 by omega) (by decide) dX9_told_26 ?_
            refine g_val (w := .ref (b.1 0 (wh S pj))) (congrArg va_rf hp0_p) ?_
            refine g_S (As := [.ref (b.1 0 (wh S pj))]) (st := []) hC 1 dX9_told_27 gX9_told_X9_tableFault rfl (by decide +kernel) ⟨Nat.le_of_ble_eq_true rfl, Nat.le_of_ble_eq_true rfl⟩ rfl (Nat.le_of_ble_eq_true rfl) ⟨Nat.le_of_ble_eq_true rfl, Nat.le_of_ble_eq_true rfl⟩ (c2 := 0) (s2 := 0) rfl rfl (x_tableFault (some (b.1 0 (wh S pj))) 1 (Or.inr ⟨_, 0, _, rfl, (hx0.B hw_p rfl), Or.inl ⟨rfl, rfl⟩⟩)) ?_
            refine g_istore_n (lv' := [(3, .int (nI 2)), (0, .ref M), (1, .int (nI pj)), (2, .int (nI 3))]) hC dX9_told_30 rfl (by decide) rfl ?_
            refine g_aload_n hC dX9_told_31 rfl 1 rfl (Or.inr ⟨_, rfl⟩) ?_
            refine g_get hC (by decide +kernel) rfl (hx0.M hM).1 (hx0.M hM).2 0 (by decide) (by decide +kernel) (Or.inl rfl) rfl dX9_told_32 ?_
            refine g_iload_n hC dX9_told_35 rfl 2 rfl ?_
            refine g_aald hC 5 rfl (hx0.Mp rfl).1 (hx0.Mp rfl).2 (pj) rfl (show pj < 10 by omega) (by decide) dX9_told_36 ?_
            refine g_val (w := .ref (b.1 0 (wh S pj))) (congrArg va_rf hp0_p) ?_
            refine g_S (As := [.ref (b.1 0 (wh S pj))]) (st := []) hC 1 dX9_told_37 gX9_told_X9_asTable rfl (by decide +kernel) ⟨Nat.le_of_ble_eq_true rfl, Nat.le_of_ble_eq_true rfl⟩ rfl (Nat.le_of_ble_eq_true rfl) ⟨Nat.le_of_ble_eq_true rfl, Nat.le_of_ble_eq_true rfl⟩ (c2 := 0) (s2 := 0) rfl rfl (x_asTable (some (b.1 0 (wh S pj))) 1 (Or.inr ⟨_, 0, _, rfl, (hx0.B hw_p rfl), Or.inl ⟨rfl, rfl⟩⟩)) ?_
            refine g_astore (lv' := [(4, .null), (3, .int (nI 2)), (0, .ref M), (1, .int (nI pj)), (2, .int (nI 3))]) hC dX9_told_40 (by decide) rfl (Or.inl rfl) ?_
            refine g_iload_n hC dX9_told_42 rfl 1 rfl ?_
            refine g_ifN_ne (a := 2) (tgt := 51) hC dX9_told_43 (by decide) (by omega) (fun h43 => ?_) (fun h43 => ?_)
            · refine g_aload_n hC dX9_told_51 rfl 2 rfl (Or.inr ⟨_, rfl⟩) ?_
              refine g_iload_n hC dX9_told_52 rfl 1 rfl ?_
              refine g_Vx (As := [.int (nI 2)]) (st := []) hC 1 dX9_told_53 rfl (hx0.M hM).1 (hx0.M hM).2 gX9_told_X9_failed rfl (by decide +kernel) ⟨Nat.le_of_ble_eq_true rfl, Nat.le_of_ble_eq_true rfl⟩ rfl (Nat.le_of_ble_eq_true rfl) ⟨(Nat.le_of_ble_eq_true rfl), (Nat.le_of_ble_eq_true rfl)⟩ (c2 := 0) (s2 := 0) rfl rfl (x_failed hx0 M hM 2) (fun v1 L1 f1 hp1 => ?_)
              obtain ⟨rfl, hx1⟩ := hp1
              show gW X vwCl 5 L1 f1 0 0 56 [(4, .null), (3, .int (nI 2)), (0, .ref M), (1, .int (nI pj)), (2, .int (nI 3))] [.int (fA 2)]
              have hc_p : castF S pj 4 = 2 := by unfold castF isO; rw [hk_p] <;> decide
              have hE : s_told S (nI pj) (nI 3) = (fA 2, (aSc (thS S) 1 2)) := by
                unfold s_told
                rw [if_pos h4, if_pos hR_w, hpl_p, hc_p, if_pos (show 0 < 2 by decide)] <;> rfl
              exact g_iret hC hR dX9_told_56 ⟨b, congrArg (fun z => some (Value.int (Prod.fst z))) hE.symm, by rw [hE]; exact hx1, xG.rf⟩
            · exfalso; omega
          · have hw_p : wh S pj < S.1 7 := hI.ws hpj hk_p
            have hp0_p : plcF (thS S) b pj = some (b.1 2 (wh S pj)) := plc_k hpj hk_p (by decide)
            refine g_aald hC 5 rfl (hx0.Mp rfl).1 (hx0.Mp rfl).2 (pj) rfl (show pj < 10 by omega) (by decide) dX9_told_26 ?_
            refine g_val (w := .ref (b.1 2 (wh S pj))) (congrArg va_rf hp0_p) ?_
            refine g_S (As := [.ref (b.1 2 (wh S pj))]) (st := []) hC 1 dX9_told_27 gX9_told_X9_tableFault rfl (by decide +kernel) ⟨Nat.le_of_ble_eq_true rfl, Nat.le_of_ble_eq_true rfl⟩ rfl (Nat.le_of_ble_eq_true rfl) ⟨Nat.le_of_ble_eq_true rfl, Nat.le_of_ble_eq_true rfl⟩ (c2 := 0) (s2 := 0) rfl rfl (x_tableFault (some (b.1 2 (wh S pj))) 2 (Or.inr ⟨_, 4, _, rfl, (hx0.G hw_p rfl), Or.inr (Or.inl ⟨rfl, rfl⟩)⟩)) ?_
            refine g_istore_n (lv' := [(3, .int (nI 2)), (0, .ref M), (1, .int (nI pj)), (2, .int (nI 3))]) hC dX9_told_30 rfl (by decide) rfl ?_
            refine g_aload_n hC dX9_told_31 rfl 1 rfl (Or.inr ⟨_, rfl⟩) ?_
            refine g_get hC (by decide +kernel) rfl (hx0.M hM).1 (hx0.M hM).2 0 (by decide) (by decide +kernel) (Or.inl rfl) rfl dX9_told_32 ?_
            refine g_iload_n hC dX9_told_35 rfl 2 rfl ?_
            refine g_aald hC 5 rfl (hx0.Mp rfl).1 (hx0.Mp rfl).2 (pj) rfl (show pj < 10 by omega) (by decide) dX9_told_36 ?_
            refine g_val (w := .ref (b.1 2 (wh S pj))) (congrArg va_rf hp0_p) ?_
            refine g_S (As := [.ref (b.1 2 (wh S pj))]) (st := []) hC 1 dX9_told_37 gX9_told_X9_asTable rfl (by decide +kernel) ⟨Nat.le_of_ble_eq_true rfl, Nat.le_of_ble_eq_true rfl⟩ rfl (Nat.le_of_ble_eq_true rfl) ⟨Nat.le_of_ble_eq_true rfl, Nat.le_of_ble_eq_true rfl⟩ (c2 := 0) (s2 := 0) rfl rfl (x_asTable (some (b.1 2 (wh S pj))) 2 (Or.inr ⟨_, 4, _, rfl, (hx0.G hw_p rfl), Or.inr (Or.inl ⟨rfl, rfl⟩)⟩)) ?_
            refine g_astore (lv' := [(4, .null), (3, .int (nI 2)), (0, .ref M), (1, .int (nI pj)), (2, .int (nI 3))]) hC dX9_told_40 (by decide) rfl (Or.inl rfl) ?_
            refine g_iload_n hC dX9_told_42 rfl 1 rfl ?_
            refine g_ifN_ne (a := 2) (tgt := 51) hC dX9_told_43 (by decide) (by omega) (fun h43 => ?_) (fun h43 => ?_)
            · refine g_aload_n hC dX9_told_51 rfl 2 rfl (Or.inr ⟨_, rfl⟩) ?_
              refine g_iload_n hC dX9_told_52 rfl 1 rfl ?_
              refine g_Vx (As := [.int (nI 2)]) (st := []) hC 1 dX9_told_53 rfl (hx0.M hM).1 (hx0.M hM).2 gX9_told_X9_failed rfl (by decide +kernel) ⟨Nat.le_of_ble_eq_true rfl, Nat.le_of_ble_eq_true rfl⟩ rfl (Nat.le_of_ble_eq_true rfl) ⟨(Nat.le_of_ble_eq_true rfl), (Nat.le_of_ble_eq_true rfl)⟩ (c2 := 0) (s2 := 0) rfl rfl (x_failed hx0 M hM 2) (fun v1 L1 f1 hp1 => ?_)
              obtain ⟨rfl, hx1⟩ := hp1
              show gW X vwCl 5 L1 f1 0 0 56 [(4, .null), (3, .int (nI 2)), (0, .ref M), (1, .int (nI pj)), (2, .int (nI 3))] [.int (fA 2)]
              have hc_p : castF S pj 4 = 2 := by unfold castF isO; rw [hk_p] <;> decide
              have hE : s_told S (nI pj) (nI 3) = (fA 2, (aSc (thS S) 1 2)) := by
                unfold s_told
                rw [if_pos h4, if_pos hR_w, hpl_p, hc_p, if_pos (show 0 < 2 by decide)] <;> rfl
              exact g_iret hC hR dX9_told_56 ⟨b, congrArg (fun z => some (Value.int (Prod.fst z))) hE.symm, by rw [hE]; exact hx1, xG.rf⟩
            · exfalso; omega
          · have hw_p : wh S pj < S.1 10 := hI.wr hpj hk_p
            have hp0_p : plcF (thS S) b pj = some (b.1 4 (wh S pj)) := plc_k hpj hk_p (by decide)
            refine g_aald hC 5 rfl (hx0.Mp rfl).1 (hx0.Mp rfl).2 (pj) rfl (show pj < 10 by omega) (by decide) dX9_told_26 ?_
            refine g_val (w := .ref (b.1 4 (wh S pj))) (congrArg va_rf hp0_p) ?_
            refine g_S (As := [.ref (b.1 4 (wh S pj))]) (st := []) hC 1 dX9_told_27 gX9_told_X9_tableFault rfl (by decide +kernel) ⟨Nat.le_of_ble_eq_true rfl, Nat.le_of_ble_eq_true rfl⟩ rfl (Nat.le_of_ble_eq_true rfl) ⟨Nat.le_of_ble_eq_true rfl, Nat.le_of_ble_eq_true rfl⟩ (c2 := 0) (s2 := 0) rfl rfl (x_tableFault (some (b.1 4 (wh S pj))) 3 (Or.inr ⟨_, 3, _, rfl, (hx0.W hw_p rfl), Or.inr (Or.inr (Or.inl ⟨rfl, rfl⟩))⟩)) ?_
            refine g_istore_n (lv' := [(3, .int (nI 2)), (0, .ref M), (1, .int (nI pj)), (2, .int (nI 3))]) hC dX9_told_30 rfl (by decide) rfl ?_
            refine g_aload_n hC dX9_told_31 rfl 1 rfl (Or.inr ⟨_, rfl⟩) ?_
            refine g_get hC (by decide +kernel) rfl (hx0.M hM).1 (hx0.M hM).2 0 (by decide) (by decide +kernel) (Or.inl rfl) rfl dX9_told_32 ?_
            refine g_iload_n hC dX9_told_35 rfl 2 rfl ?_
            refine g_aald hC 5 rfl (hx0.Mp rfl).1 (hx0.Mp rfl).2 (pj) rfl (show pj < 10 by omega) (by decide) dX9_told_36 ?_
            refine g_val (w := .ref (b.1 4 (wh S pj))) (congrArg va_rf hp0_p) ?_
            refine g_S (As := [.ref (b.1 4 (wh S pj))]) (st := []) hC 1 dX9_told_37 gX9_told_X9_asTable rfl (by decide +kernel) ⟨Nat.le_of_ble_eq_true rfl, Nat.le_of_ble_eq_true rfl⟩ rfl (Nat.le_of_ble_eq_true rfl) ⟨Nat.le_of_ble_eq_true rfl, Nat.le_of_ble_eq_true rfl⟩ (c2 := 0) (s2 := 0) rfl rfl (x_asTable (some (b.1 4 (wh S pj))) 3 (Or.inr ⟨_, 3, _, rfl, (hx0.W hw_p rfl), Or.inr (Or.inr (Or.inl ⟨rfl, rfl⟩))⟩)) ?_
            refine g_astore (lv' := [(4, .null), (3, .int (nI 2)), (0, .ref M), (1, .int (nI pj)), (2, .int (nI 3))]) hC dX9_told_40 (by decide) rfl (Or.inl rfl) ?_
            refine g_iload_n hC dX9_told_42 rfl 1 rfl ?_
            refine g_ifN_ne (a := 2) (tgt := 51) hC dX9_told_43 (by decide) (by omega) (fun h43 => ?_) (fun h43 => ?_)
            · refine g_aload_n hC dX9_told_51 rfl 2 rfl (Or.inr ⟨_, rfl⟩) ?_
              refine g_iload_n hC dX9_told_52 rfl 1 rfl ?_
              refine g_Vx (As := [.int (nI 2)]) (st := []) hC 1 dX9_told_53 rfl (hx0.M hM).1 (hx0.M hM).2 gX9_told_X9_failed rfl (by decide +kernel) ⟨Nat.le_of_ble_eq_true rfl, Nat.le_of_ble_eq_true rfl⟩ rfl (Nat.le_of_ble_eq_true rfl) ⟨(Nat.le_of_ble_eq_true rfl), (Nat.le_of_ble_eq_true rfl)⟩ (c2 := 0) (s2 := 0) rfl rfl (x_failed hx0 M hM 2) (fun v1 L1 f1 hp1 => ?_)
              obtain ⟨rfl, hx1⟩ := hp1
              show gW X vwCl 5 L1 f1 0 0 56 [(4, .null), (3, .int (nI 2)), (0, .ref M), (1, .int (nI pj)), (2, .int (nI 3))] [.int (fA 2)]
              have hc_p : castF S pj 4 = 2 := by unfold castF isO; rw [hk_p] <;> decide
              have hE : s_told S (nI pj) (nI 3) = (fA 2, (aSc (thS S) 1 2)) := by
                unfold s_told
                rw [if_pos h4, if_pos hR_w, hpl_p, hc_p, if_pos (show 0 < 2 by decide)] <;> rfl
              exact g_iret hC hR dX9_told_56 ⟨b, congrArg (fun z => some (Value.int (Prod.fst z))) hE.symm, by rw [hE]; exact hx1, xG.rf⟩
            · exfalso; omega
          · have hw_p : wh S pj < S.1 13 := hI.wt hpj (by omega)
            have hb_p : S.2.1 14 (wh S pj) = 0 := by have := ((hI.2.1 _ hpj).2.2.2.2.2 (by omega)).2; omega
            have hp0_p : plcF (thS S) b pj = some (b.1 6 (wh S pj)) := plc_k hpj hk_p (by decide)
            have htk := hI.tk hw_p
            have htm := htk.2.1
            have hts := htk.sl
            have htk0 := hI0.tk (show wh S pj < (thS S).1 13 from hw_p)
            refine g_aald hC 5 rfl (hx0.Mp rfl).1 (hx0.Mp rfl).2 (pj) rfl (show pj < 10 by omega) (by decide) dX9_told_26 ?_
            refine g_val (w := .ref (b.1 6 (wh S pj))) (congrArg va_rf hp0_p) ?_
            refine g_S (As := [.ref (b.1 6 (wh S pj))]) (st := []) hC 1 dX9_told_27 gX9_told_X9_tableFault rfl (by decide +kernel) ⟨Nat.le_of_ble_eq_true rfl, Nat.le_of_ble_eq_true rfl⟩ rfl (Nat.le_of_ble_eq_true rfl) ⟨Nat.le_of_ble_eq_true rfl, Nat.le_of_ble_eq_true rfl⟩ (c2 := 0) (s2 := 0) rfl rfl (x_tableFault (some (b.1 6 (wh S pj))) 4 (Or.inr ⟨_, 5, _, rfl, (hx0.T hw_p rfl hb_p), Or.inr (Or.inr (Or.inr (Or.inl ⟨rfl, rfl⟩)))⟩)) ?_
            refine g_istore_n (lv' := [(3, .int (nI 0)), (0, .ref M), (1, .int (nI pj)), (2, .int (nI 3))]) hC dX9_told_30 rfl (by decide) rfl ?_
            refine g_aload_n hC dX9_told_31 rfl 1 rfl (Or.inr ⟨_, rfl⟩) ?_
            refine g_get hC (by decide +kernel) rfl (hx0.M hM).1 (hx0.M hM).2 0 (by decide) (by decide +kernel) (Or.inl rfl) rfl dX9_told_32 ?_
            refine g_iload_n hC dX9_told_35 rfl 2 rfl ?_
            refine g_aald hC 5 rfl (hx0.Mp rfl).1 (hx0.Mp rfl).2 (pj) rfl (show pj < 10 by omega) (by decide) dX9_told_36 ?_
            refine g_val (w := .ref (b.1 6 (wh S pj))) (congrArg va_rf hp0_p) ?_
            refine g_S (As := [.ref (b.1 6 (wh S pj))]) (st := []) hC 1 dX9_told_37 gX9_told_X9_asTable rfl (by decide +kernel) ⟨Nat.le_of_ble_eq_true rfl, Nat.le_of_ble_eq_true rfl⟩ rfl (Nat.le_of_ble_eq_true rfl) ⟨Nat.le_of_ble_eq_true rfl, Nat.le_of_ble_eq_true rfl⟩ (c2 := 0) (s2 := 0) rfl rfl (x_asTable (some (b.1 6 (wh S pj))) 4 (Or.inr ⟨_, 5, _, rfl, (hx0.T hw_p rfl hb_p), Or.inr (Or.inr (Or.inr (Or.inl ⟨rfl, rfl⟩)))⟩)) ?_
            refine g_astore (lv' := [(4, .ref (b.1 6 (wh S pj))), (3, .int (nI 0)), (0, .ref M), (1, .int (nI pj)), (2, .int (nI 3))]) hC dX9_told_40 (by decide) rfl (Or.inr ⟨_, rfl⟩) ?_
            refine g_iload_n hC dX9_told_42 rfl 1 rfl ?_
            refine g_ifN_ne (a := 0) (tgt := 51) hC dX9_told_43 (by decide) (by omega) (fun h43 => ?_) (fun h43 => ?_)
            · exfalso; omega
            · refine g_aload hC dX9_told_46 0 rfl (Or.inr ⟨_, rfl⟩) ?_
              refine g_ifnonnull (o := some (b.1 6 (wh S pj))) (tgt := 57) hC dX9_told_48 (by decide) (fun a48 h48 => ?_) (fun h48 => ?_)
              · refine g_aload hC dX9_told_57 0 rfl (Or.inr ⟨_, rfl⟩) ?_
                refine g_iload_n hC dX9_told_59 rfl 4 rfl ?_
                refine g_V (As := [.int (nI 3)]) (st := []) hC 1 dX9_told_60 rfl (hx0.T hw_p rfl hb_p).1 (hx0.T hw_p rfl hb_p).2 gX9_told_X7_figure rfl (by decide +kernel) ⟨Nat.le_of_ble_eq_true rfl, Nat.le_of_ble_eq_true rfl⟩ rfl (Nat.le_of_ble_eq_true rfl) ⟨Nat.le_of_ble_eq_true rfl, Nat.le_of_ble_eq_true rfl⟩ (c2 := 0) (s2 := 0) rfl rfl (x_figure_T (S := thS S) hx0 _ _ hw_p rfl hb_p 3 (by decide)) ?_
                have hc_p : castF S pj 4 = 0 := by unfold castF isO; rw [hk_p] <;> decide
                have hE : s_told S (nI pj) (nI 3) = (nI (S.2.1 18 (wh S pj)), (thS S)) := by
                  unfold s_told
                  rw [if_pos h4, if_pos hR_w, hpl_p, hc_p, if_neg (show ¬ 0 < 0 by decide), if_neg (show ¬ nI 3 = 0 by decide), if_neg (show ¬ nI 3 = nI 1 by decide), if_neg (show ¬ nI 3 = nI 2 by decide)] <;> rfl
                exact g_iret hC hR dX9_told_63 ⟨b, congrArg (fun z => some (Value.int (Prod.fst z))) hE.symm, by rw [hE]; exact hx0, xG.rf⟩
              · cases h48
          · have hw_p : wh S pj < S.1 13 := hI.wt hpj (by omega)
            have hb_p : S.2.1 14 (wh S pj) ≠ 0 := by have := ((hI.2.1 _ hpj).2.2.2.2.2 (by omega)).2; omega
            have hp0_p : plcF (thS S) b pj = some (b.1 6 (wh S pj)) := plc_k hpj hk_p (by decide)
            have htk := hI.tk hw_p
            have htm := htk.2.1
            have hts := htk.sl
            have htk0 := hI0.tk (show wh S pj < (thS S).1 13 from hw_p)
            refine g_aald hC 5 rfl (hx0.Mp rfl).1 (hx0.Mp rfl).2 (pj) rfl (show pj < 10 by omega) (by decide) dX9_told_26 ?_
            refine g_val (w := .ref (b.1 6 (wh S pj))) (congrArg va_rf hp0_p) ?_
            refine g_S (As := [.ref (b.1 6 (wh S pj))]) (st := []) hC 1 dX9_told_27 gX9_told_X9_tableFault rfl (by decide +kernel) ⟨Nat.le_of_ble_eq_true rfl, Nat.le_of_ble_eq_true rfl⟩ rfl (Nat.le_of_ble_eq_true rfl) ⟨Nat.le_of_ble_eq_true rfl, Nat.le_of_ble_eq_true rfl⟩ (c2 := 0) (s2 := 0) rfl rfl (x_tableFault (some (b.1 6 (wh S pj))) 5 (Or.inr ⟨_, 1, _, rfl, (hx0.K hw_p rfl hb_p), Or.inr (Or.inr (Or.inr (Or.inr ⟨rfl, rfl⟩)))⟩)) ?_
            refine g_istore_n (lv' := [(3, .int (nI 0)), (0, .ref M), (1, .int (nI pj)), (2, .int (nI 3))]) hC dX9_told_30 rfl (by decide) rfl ?_
            refine g_aload_n hC dX9_told_31 rfl 1 rfl (Or.inr ⟨_, rfl⟩) ?_
            refine g_get hC (by decide +kernel) rfl (hx0.M hM).1 (hx0.M hM).2 0 (by decide) (by decide +kernel) (Or.inl rfl) rfl dX9_told_32 ?_
            refine g_iload_n hC dX9_told_35 rfl 2 rfl ?_
            refine g_aald hC 5 rfl (hx0.Mp rfl).1 (hx0.Mp rfl).2 (pj) rfl (show pj < 10 by omega) (by decide) dX9_told_36 ?_
            refine g_val (w := .ref (b.1 6 (wh S pj))) (congrArg va_rf hp0_p) ?_
            refine g_S (As := [.ref (b.1 6 (wh S pj))]) (st := []) hC 1 dX9_told_37 gX9_told_X9_asTable rfl (by decide +kernel) ⟨Nat.le_of_ble_eq_true rfl, Nat.le_of_ble_eq_true rfl⟩ rfl (Nat.le_of_ble_eq_true rfl) ⟨Nat.le_of_ble_eq_true rfl, Nat.le_of_ble_eq_true rfl⟩ (c2 := 0) (s2 := 0) rfl rfl (x_asTable (some (b.1 6 (wh S pj))) 5 (Or.inr ⟨_, 1, _, rfl, (hx0.K hw_p rfl hb_p), Or.inr (Or.inr (Or.inr (Or.inr ⟨rfl, rfl⟩)))⟩)) ?_
            refine g_astore (lv' := [(4, .ref (b.1 6 (wh S pj))), (3, .int (nI 0)), (0, .ref M), (1, .int (nI pj)), (2, .int (nI 3))]) hC dX9_told_40 (by decide) rfl (Or.inr ⟨_, rfl⟩) ?_
            refine g_iload_n hC dX9_told_42 rfl 1 rfl ?_
            refine g_ifN_ne (a := 0) (tgt := 51) hC dX9_told_43 (by decide) (by omega) (fun h43 => ?_) (fun h43 => ?_)
            · exfalso; omega
            · refine g_aload hC dX9_told_46 0 rfl (Or.inr ⟨_, rfl⟩) ?_
              refine g_ifnonnull (o := some (b.1 6 (wh S pj))) (tgt := 57) hC dX9_told_48 (by decide) (fun a48 h48 => ?_) (fun h48 => ?_)
              · refine g_aload hC dX9_told_57 0 rfl (Or.inr ⟨_, rfl⟩) ?_
                refine g_iload_n hC dX9_told_59 rfl 4 rfl ?_
                refine g_U (As := [.int (nI 3)]) (st := []) hC 1 dX9_told_60 rfl (hx0.K hw_p rfl hb_p).1 (hx0.K hw_p rfl hb_p).2 gX9_told_X7_figure_u182X1 rfl rfl (by decide +kernel) ⟨Nat.le_of_ble_eq_true rfl, Nat.le_of_ble_eq_true rfl⟩ rfl (Nat.le_of_ble_eq_true rfl) ⟨Nat.le_of_ble_eq_true rfl, Nat.le_of_ble_eq_true rfl⟩ (c2 := 0) (s2 := 0) rfl rfl (x_figure_K (S := thS S) hx0 _ _ hw_p rfl hb_p 3 (by decide)) ?_
                have hc_p : castF S pj 4 = 0 := by unfold castF isO; rw [hk_p] <;> decide
                have hE : s_told S (nI pj) (nI 3) = (nI (S.2.1 18 (wh S pj)), (thS S)) := by
                  unfold s_told
                  rw [if_pos h4, if_pos hR_w, hpl_p, hc_p, if_neg (show ¬ 0 < 0 by decide), if_neg (show ¬ nI 3 = 0 by decide), if_neg (show ¬ nI 3 = nI 1 by decide), if_neg (show ¬ nI 3 = nI 2 by decide)] <;> rfl
                exact g_iret hC hR dX9_told_63 ⟨b, congrArg (fun z => some (Value.int (Prod.fst z))) hE.symm, by rw [hE]; exact hx0, xG.rf⟩
              · cases h48
      · refine g_bipush hC dX9_told_18 (v := (-2)) (by decide) ?_
        have hE : s_told S (nI pj) w = ((-2), (thS S)) := by
          unfold s_told
          rw [if_pos h4, if_neg (show ¬ (nI 0 ≤ w ∧ w ≤ nI 3) by
            have e1 : (nI 0).toInt = 0 := rfl
            have e2 : (nI 3).toInt = 3 := rfl
            intro z
            simp only [Int32.lt_iff_toInt_lt, Int32.le_iff_toInt_le, Int32.toInt_zero] at h15 z
            omega)] <;> rfl
        exact g_iret hC hR dX9_told_20 ⟨b, congrArg (fun z => some (Value.int (Prod.fst z))) hE.symm, by rw [hE]; exact hx0, xG.rf⟩
  · refine g_iconst hC dX9_told_7 (v := (-1)) (by decide) ?_
    have hE : s_told S p w = ((-1), (thS S)) := by
      unfold s_told
      rw [if_neg h4] <;> rfl
    exact g_iret hC hR dX9_told_8 ⟨b, congrArg (fun z => some (Value.int (Prod.fst z))) hE.symm, by rw [hE]; exact hx0, xG.rf⟩
set_option maxRecDepth 20000 in
set_option maxHeartbeats 4000000 in
theorem y_term {S : aS} {b : xB} (hx : xR cy S b L f) (hI : aI S) (M : Nat) (hM : b.1 9 0 = M) (p q k : Int32) : gCt l D vwCl (gKK D cy adK adV) yX9_term wsX9_term { frames := 5, cells := 0, slots := 0, locals := 103 } [.ref M, .int p, .int q, .int k] L f (xP cy S b (s_term S p q k).2 (fun _ => some (.int (s_term S p q k).1))) := by
  refine gCt.of gKK_ok (by decide) rfl rfl (fun X hC hR hnm => ?_)
  have hC : gC X l _ D vwCl (cyT cy) (gKK D cy adK adV) cX9_term 7 wsX9_term RX9 := hC
  have hx0 := hx.th0
  have hI0 := hI.th
  show gW X vwCl 7 L f 0 0 0 [(0, .ref M), (1, .int p), (2, .int q), (3, .int k)] []
  refine g_iload_n hC dX9_term_0 rfl 1 rfl ?_
  refine g_S (As := [.int p]) (st := []) hC 1 dX9_term_1 gX9_term_X9_isPlace rfl (by decide +kernel) ⟨Nat.le_of_ble_eq_true rfl, Nat.le_of_ble_eq_true rfl⟩ rfl (Nat.le_of_ble_eq_true rfl) ⟨Nat.le_of_ble_eq_true rfl, Nat.le_of_ble_eq_true rfl⟩ (c2 := 0) (s2 := 0) rfl rfl (x_isPlace _) ?_
  refine g_ifB_eq (P := isP p) (tgt := 14) hC dX9_term_4 (by decide) (fun h4 => ?_) (fun h4 => ?_)
  · refine g_iconst hC dX9_term_14 (v := (-1)) (by decide) ?_
    have hE : s_term S p q k = ((-1), (thS S)) := by
      unfold s_term
      rw [if_neg h4] <;> rfl
    exact g_iret hC hR dX9_term_15 ⟨b, congrArg (fun z => some (Value.int (Prod.fst z))) hE.symm, by rw [hE]; exact hx0, xG.rf⟩
  · obtain ⟨pj, hpj, rfl⟩ := isP_j h4
    have hpl_p : pl (nI pj) = pj := nI_clamp (by omega)
    refine g_iload_n hC dX9_term_7 rfl 2 rfl ?_
    refine g_S (As := [.int q]) (st := []) hC 1 dX9_term_8 gX9_term_X9_isPlace rfl (by decide +kernel) ⟨Nat.le_of_ble_eq_true rfl, Nat.le_of_ble_eq_true rfl⟩ rfl (Nat.le_of_ble_eq_true rfl) ⟨Nat.le_of_ble_eq_true rfl, Nat.le_of_ble_eq_true rfl⟩ (c2 := 0) (s2 := 0) rfl rfl (x_isPlace _) ?_
    refine g_ifB_ne (P := isP q) (tgt := 16) hC dX9_term_11 (by decide) (fun h11 => ?_) (fun h11 => ?_)
    · obtain ⟨qj, hqj, rfl⟩ := isP_j h11
      have hpl_q : pl (nI qj) = qj := nI_clamp (by omega)
      refine g_aload_n hC dX9_term_16 rfl 0 rfl (Or.inr ⟨_, rfl⟩) ?_
      refine g_get hC (by decide +kernel) rfl (hx0.M hM).1 (hx0.M hM).2 0 (by decide) (by decide +kernel) (Or.inl rfl) rfl dX9_term_17 ?_
      refine g_iload_n hC dX9_term_20 rfl 2 rfl ?_
      have h5_q := hI.k5 hqj
      rcases (show kd S qj = 0 ∨ kd S qj = 1 ∨ kd S qj = 2 ∨ kd S qj = 3 ∨ kd S qj = 4 ∨ kd S qj = 5 by omega) with hk_q | hk_q | hk_q | hk_q | hk_q | hk_q
      · have hp0_q : plcF (thS S) b qj = none := plc_0 hqj hk_q
        refine g_aald hC 5 rfl (hx0.Mp rfl).1 (hx0.Mp rfl).2 (qj) rfl (show qj < 10 by omega) (by decide) dX9_term_21 ?_
        refine g_val (w := .null) (congrArg va_rf hp0_q) ?_
        refine g_S (As := [.null]) (st := []) hC 1 dX9_term_22 gX9_term_X9_tableFault rfl (by decide +kernel) ⟨Nat.le_of_ble_eq_true rfl, Nat.le_of_ble_eq_true rfl⟩ rfl (Nat.le_of_ble_eq_true rfl) ⟨Nat.le_of_ble_eq_true rfl, Nat.le_of_ble_eq_true rfl⟩ (c2 := 0) (s2 := 0) rfl rfl (x_tableFault none 0 (Or.inl ⟨rfl, rfl⟩)) ?_
        refine g_istore (lv' := [(4, .int (nI 1)), (0, .ref M), (1, .int (nI pj)), (2, .int (nI qj)), (3, .int k)]) hC dX9_term_25 (by decide) rfl ?_
        refine g_aload_n hC dX9_term_27 rfl 1 rfl (Or.inr ⟨_, rfl⟩) ?_
        refine g_get hC (by decide +kernel) rfl (hx0.M hM).1 (hx0.M hM).2 0 (by decide) (by decide +kernel) (Or.inl rfl) rfl dX9_term_28 ?_
        refine g_iload_n hC dX9_term_31 rfl 3 rfl ?_
        refine g_aald hC 5 rfl (hx0.Mp rfl).1 (hx0.Mp rfl).2 (qj) rfl (show qj < 10 by omega) (by decide) dX9_term_32 ?_
        refine g_val (w := .null) (congrArg va_rf hp0_q) ?_
        refine g_S (As := [.null]) (st := []) hC 1 dX9_term_33 gX9_term_X9_asTable rfl (by decide +kernel) ⟨Nat.le_of_ble_eq_true rfl, Nat.le_of_ble_eq_true rfl⟩ rfl (Nat.le_of_ble_eq_true rfl) ⟨Nat.le_of_ble_eq_true rfl, Nat.le_of_ble_eq_true rfl⟩ (c2 := 0) (s2 := 0) rfl rfl (x_asTable none 0 (Or.inl ⟨rfl, rfl⟩)) ?_
        refine g_astore (lv' := [(5, .null), (4, .int (nI 1)), (0, .ref M), (1, .int (nI pj)), (2, .int (nI qj)), (3, .int k)]) hC dX9_term_36 (by decide) rfl (Or.inl rfl) ?_
        refine g_iload hC dX9_term_38 1 rfl ?_
        refine g_ifN_ne (a := 1) (tgt := 48) hC dX9_term_40 (by decide) (by omega) (fun h40 => ?_) (fun h40 => ?_)
        · refine g_aload_n hC dX9_term_48 rfl 2 rfl (Or.inr ⟨_, rfl⟩) ?_
          refine g_iload hC dX9_term_49 1 rfl ?_
          refine g_Vx (As := [.int (nI 1)]) (st := []) hC 1 dX9_term_51 rfl (hx0.M hM).1 (hx0.M hM).2 gX9_term_X9_failed rfl (by decide +kernel) ⟨Nat.le_of_ble_eq_true rfl, Nat.le_of_ble_eq_true rfl⟩ rfl (Nat.le_of_ble_eq_true rfl) ⟨(Nat.le_of_ble_eq_true rfl), (Nat.le_of_ble_eq_true rfl)⟩ (c2 := 0) (s2 := 0) rfl rfl (x_failed hx0 M hM 1) (fun v1 L1 f1 hp1 => ?_)
          obtain ⟨rfl, hx1⟩ := hp1
          show gW X vwCl 7 L1 f1 0 0 54 [(5, .null), (4, .int (nI 1)), (0, .ref M), (1, .int (nI pj)), (2, .int (nI qj)), (3, .int k)] [.int (fA 1)]
          have hc_q : castF S qj 4 = 1 := by unfold castF isO; rw [hk_q] <;> decide
          have hE : s_term S (nI pj) (nI qj) k = (fA 1, (aSc (thS S) 1 1)) := by
            unfold s_term
            rw [if_pos h4, if_pos h11, hpl_q, hc_q, if_pos (show 0 < 1 by decide)] <;> rfl
          exact g_iret hC hR dX9_term_54 ⟨b, congrArg (fun z => some (Value.int (Prod.fst z))) hE.symm, by rw [hE]; exact hx1, xG.rf⟩
        · exfalso; omega
      · have hw_q : wh S qj < S.1 4 := hI.wl hqj hk_q
        have hp0_q : plcF (thS S) b qj = some (b.1 0 (wh S qj)) := plc_k hqj hk_q (by decide)
        refine g_aald hC 5 rfl (hx0.Mp rfl).1 (hx0.Mp rfl).2 (qj) rfl (show qj < 10 by omega) (by decide) dX9_term_21 ?_
        refine g_val (w := .ref (b.1 0 (wh S qj))) (congrArg va_rf hp0_q) ?_
        refine g_S (As := [.ref (b.1 0 (wh S qj))]) (st := []) hC 1 dX9_term_22 gX9_term_X9_tableFault rfl (by decide +kernel) ⟨Nat.le_of_ble_eq_true rfl, Nat.le_of_ble_eq_true rfl⟩ rfl (Nat.le_of_ble_eq_true rfl) ⟨Nat.le_of_ble_eq_true rfl, Nat.le_of_ble_eq_true rfl⟩ (c2 := 0) (s2 := 0) rfl rfl (x_tableFault (some (b.1 0 (wh S qj))) 1 (Or.inr ⟨_, 0, _, rfl, (hx0.B hw_q rfl), Or.inl ⟨rfl, rfl⟩⟩)) ?_
        refine g_istore (lv' := [(4, .int (nI 2)), (0, .ref M), (1, .int (nI pj)), (2, .int (nI qj)), (3, .int k)]) hC dX9_term_25 (by decide) rfl ?_
        refine g_aload_n hC dX9_term_27 rfl 1 rfl (Or.inr ⟨_, rfl⟩) ?_
        refine g_get hC (by decide +kernel) rfl (hx0.M hM).1 (hx0.M hM).2 0 (by decide) (by decide +kernel) (Or.inl rfl) rfl dX9_term_28 ?_
        refine g_iload_n hC dX9_term_31 rfl 3 rfl ?_
        refine g_aald hC 5 rfl (hx0.Mp rfl).1 (hx0.Mp rfl).2 (qj) rfl (show qj < 10 by omega) (by decide) dX9_term_32 ?_
        refine g_val (w := .ref (b.1 0 (wh S qj))) (congrArg va_rf hp0_q) ?_
        refine g_S (As := [.ref (b.1 0 (wh S qj))]) (st := []) hC 1 dX9_term_33 gX9_term_X9_asTable rfl (by decide +kernel) ⟨Nat.le_of_ble_eq_true rfl, Nat.le_of_ble_eq_true rfl⟩ rfl (Nat.le_of_ble_eq_true rfl) ⟨Nat.le_of_ble_eq_true rfl, Nat.le_of_ble_eq_true rfl⟩ (c2 := 0) (s2 := 0) rfl rfl (x_asTable (some (b.1 0 (wh S qj))) 1 (Or.inr ⟨_, 0, _, rfl, (hx0.B hw_q rfl), Or.inl ⟨rfl, rfl⟩⟩)) ?_
        refine g_astore (lv' := [(5, .null), (4, .int (nI 2)), (0, .ref M), (1, .int (nI pj)), (2, .int (nI qj)), (3, .int k)]) hC dX9_term_36 (by decide) rfl (Or.inl rfl) ?_
        refine g_iload hC dX9_term_38 1 rfl ?_
        refine g_ifN_ne (a := 2) (tgt := 48) hC dX9_term_40 (by decide) (by omega) (fun h40 => ?_) (fun h40 => ?_)
        · refine g_aload_n hC dX9_term_48 rfl 2 rfl (Or.inr ⟨_, rfl⟩) ?_
          refine g_iload hC dX9_term_49 1 rfl ?_
          refine g_Vx (As := [.int (nI 2)]) (st := []) hC 1 dX9_term_51 rfl (hx0.M hM).1 (hx0.M hM).2 gX9_term_X9_failed rfl (by decide +kernel) ⟨Nat.le_of_ble_eq_true rfl, Nat.le_of_ble_eq_true rfl⟩ rfl (Nat.le_of_ble_eq_true rfl) ⟨(Nat.le_of_ble_eq_true rfl), (Nat.le_of_ble_eq_true rfl)⟩ (c2 := 0) (s2 := 0) rfl rfl (x_failed hx0 M hM 2) (fun v1 L1 f1 hp1 => ?_)
          obtain ⟨rfl, hx1⟩ := hp1
          show gW X vwCl 7 L1 f1 0 0 54 [(5, .null), (4, .int (nI 2)), (0, .ref M), (1, .int (nI pj)), (2, .int (nI qj)), (3, .int k)] [.int (fA 2)]
          have hc_q : castF S qj 4 = 2 := by unfold castF isO; rw [hk_q] <;> decide
          have hE : s_term S (nI pj) (nI qj) k = (fA 2, (aSc (thS S) 1 2)) := by
            unfold s_term
            rw [if_pos h4, if_pos h11, hpl_q, hc_q, if_pos (show 0 < 2 by decide)] <;> rfl
          exact g_iret hC hR dX9_term_54 ⟨b, congrArg (fun z => some (Value.int (Prod.fst z))) hE.symm, by rw [hE]; exact hx1, xG.rf⟩
        · exfalso; omega
      · have hw_q : wh S qj < S.1 7 := hI.ws hqj hk_q
        have hp0_q : plcF (thS S) b qj = some (b.1 2 (wh S qj)) := plc_k hqj hk_q (by decide)
        refine g_aald hC 5 rfl (hx0.Mp rfl).1 (hx0.Mp rfl).2 (qj) rfl (show qj < 10 by omega) (by decide) dX9_term_21 ?_
        refine g_val (w := .ref (b.1 2 (wh S qj))) (congrArg va_rf hp0_q) ?_
        refine g_S (As := [.ref (b.1 2 (wh S qj))]) (st := []) hC 1 dX9_term_22 gX9_term_X9_tableFault rfl (by decide +kernel) ⟨Nat.le_of_ble_eq_true rfl, Nat.le_of_ble_eq_true rfl⟩ rfl (Nat.le_of_ble_eq_true rfl) ⟨Nat.le_of_ble_eq_true rfl, Nat.le_of_ble_eq_true rfl⟩ (c2 := 0) (s2 := 0) rfl rfl (x_tableFault (some (b.1 2 (wh S qj))) 2 (Or.inr ⟨_, 4, _, rfl, (hx0.G hw_q rfl), Or.inr (Or.inl ⟨rfl, rfl⟩)⟩)) ?_
        refine g_istore (lv' := [(4, .int (nI 2)), (0, .ref M), (1, .int (nI pj)), (2, .int (nI qj)), (3, .int k)]) hC dX9_term_25 (by decide) rfl ?_
        refine g_aload_n hC dX9_term_27 rfl 1 rfl (Or.inr ⟨_, rfl⟩) ?_
        refine g_get hC (by decide +kernel) rfl (hx0.M hM).1 (hx0.M hM).2 0 (by decide) (by decide +kernel) (Or.inl rfl) rfl dX9_term_28 ?_
        refine g_iload_n hC dX9_term_31 rfl 3 rfl ?_
        refine g_aald hC 5 rfl (hx0.Mp rfl).1 (hx0.Mp rfl).2 (qj) rfl (show qj < 10 by omega) (by decide) dX9_term_32 ?_
        refine g_val (w := .ref (b.1 2 (wh S qj))) (congrArg va_rf hp0_q) ?_
        refine g_S (As := [.ref (b.1 2 (wh S qj))]) (st := []) hC 1 dX9_term_33 gX9_term_X9_asTable rfl (by decide +kernel) ⟨Nat.le_of_ble_eq_true rfl, Nat.le_of_ble_eq_true rfl⟩ rfl (Nat.le_of_ble_eq_true rfl) ⟨Nat.le_of_ble_eq_true rfl, Nat.le_of_ble_eq_true rfl⟩ (c2 := 0) (s2 := 0) rfl rfl (x_asTable (some (b.1 2 (wh S qj))) 2 (Or.inr ⟨_, 4, _, rfl, (hx0.G hw_q rfl), Or.inr (Or.inl ⟨rfl, rfl⟩)⟩)) ?_
        refine g_astore (lv' := [(5, .null), (4, .int (nI 2)), (0, .ref M), (1, .int (nI pj)), (2, .int (nI qj)), (3, .int k)]) hC dX9_term_36 (by decide) rfl (Or.inl rfl) ?_
        refine g_iload hC dX9_term_38 1 rfl ?_
        refine g_ifN_ne (a := 2) (tgt := 48) hC dX9_term_40 (by decide) (by omega) (fun h40 => ?_) (fun h40 => ?_)
        · refine g_aload_n hC dX9_term_48 rfl 2 rfl (Or.inr ⟨_, rfl⟩) ?_
          refine g_iload hC dX9_term_49 1 rfl ?_
          refine g_Vx (As := [.int (nI 2)]) (st := []) hC 1 dX9_term_51 rfl (hx0.M hM).1 (hx0.M hM).2 gX9_term_X9_failed rfl (by decide +kernel) ⟨Nat.le_of_ble_eq_true rfl, Nat.le_of_ble_eq_true rfl⟩ rfl (Nat.le_of_ble_eq_true rfl) ⟨(Nat.le_of_ble_eq_true rfl), (Nat.le_of_ble_eq_true rfl)⟩ (c2 := 0) (s2 := 0) rfl rfl (x_failed hx0 M hM 2) (fun v1 L1 f1 hp1 => ?_)
          obtain ⟨rfl, hx1⟩ := hp1
          show gW X vwCl 7 L1 f1 0 0 54 [(5, .null), (4, .int (nI 2)), (0, .ref M), (1, .int (nI pj)), (2, .int (nI qj)), (3, .int k)] [.int (fA 2)]
          have hc_q : castF S qj 4 = 2 := by unfold castF isO; rw [hk_q] <;> decide
          have hE : s_term S (nI pj) (nI qj) k = (fA 2, (aSc (thS S) 1 2)) := by
            unfold s_term
            rw [if_pos h4, if_pos h11, hpl_q, hc_q, if_pos (show 0 < 2 by decide)] <;> rfl
          exact g_iret hC hR dX9_term_54 ⟨b, congrArg (fun z => some (Value.int (Prod.fst z))) hE.symm, by rw [hE]; exact hx1, xG.rf⟩
        · exfalso; omega
      · have hw_q : wh S qj < S.1 10 := hI.wr hqj hk_q
        have hp0_q : plcF (thS S) b qj = some (b.1 4 (wh S qj)) := plc_k hqj hk_q (by decide)
        refine g_aald hC 5 rfl (hx0.Mp rfl).1 (hx0.Mp rfl).2 (qj) rfl (show qj < 10 by omega) (by decide) dX9_term_21 ?_
        refine g_val (w := .ref (b.1 4 (wh S qj))) (congrArg va_rf hp0_q) ?_
        refine g_S (As := [.ref (b.1 4 (wh S qj))]) (st := []) hC 1 dX9_term_22 gX9_term_X9_tableFault rfl (by decide +kernel) ⟨Nat.le_of_ble_eq_true rfl, Nat.le_of_ble_eq_true rfl⟩ rfl (Nat.le_of_ble_eq_true rfl) ⟨Nat.le_of_ble_eq_true rfl, Nat.le_of_ble_eq_true rfl⟩ (c2 := 0) (s2 := 0) rfl rfl (x_tableFault (some (b.1 4 (wh S qj))) 3 (Or.inr ⟨_, 3, _, rfl, (hx0.W hw_q rfl), Or.inr (Or.inr (Or.inl ⟨rfl, rfl⟩))⟩)) ?_
        refine g_istore (lv' := [(4, .int (nI 2)), (0, .ref M), (1, .int (nI pj)), (2, .int (nI qj)), (3, .int k)]) hC dX9_term_25 (by decide) rfl ?_
        refine g_aload_n hC dX9_term_27 rfl 1 rfl (Or.inr ⟨_, rfl⟩) ?_
        refine g_get hC (by decide +kernel) rfl (hx0.M hM).1 (hx0.M hM).2 0 (by decide) (by decide +kernel) (Or.inl rfl) rfl dX9_term_28 ?_
        refine g_iload_n hC dX9_term_31 rfl 3 rfl ?_
        refine g_aald hC 5 rfl (hx0.Mp rfl).1 (hx0.Mp rfl).2 (qj) rfl (show qj < 10 by omega) (by decide) dX9_term_32 ?_
        refine g_val (w := .ref (b.1 4 (wh S qj))) (congrArg va_rf hp0_q) ?_
        refine g_S (As := [.ref (b.1 4 (wh S qj))]) (st := []) hC 1 dX9_term_33 gX9_term_X9_asTable rfl (by decide +kernel) ⟨Nat.le_of_ble_eq_true rfl, Nat.le_of_ble_eq_true rfl⟩ rfl (Nat.le_of_ble_eq_true rfl) ⟨Nat.le_of_ble_eq_true rfl, Nat.le_of_ble_eq_true rfl⟩ (c2 := 0) (s2 := 0) rfl rfl (x_asTable (some (b.1 4 (wh S qj))) 3 (Or.inr ⟨_, 3, _, rfl, (hx0.W hw_q rfl), Or.inr (Or.inr (Or.inl ⟨rfl, rfl⟩))⟩)) ?_
        refine g_astore (lv' := [(5, .null), (4, .int (nI 2)), (0, .ref M), (1, .int (nI pj)), (2, .int (nI qj)), (3, .int k)]) hC dX9_term_36 (by decide) rfl (Or.inl rfl) ?_
        refine g_iload hC dX9_term_38 1 rfl ?_
        refine g_ifN_ne (a := 2) (tgt := 48) hC dX9_term_40 (by decide) (by omega) (fun h40 => ?_) (fun h40 => ?_)
        · refine g_aload_n hC dX9_term_48 rfl 2 rfl (Or.inr ⟨_, rfl⟩) ?_
          refine g_iload hC dX9_term_49 1 rfl ?_
          refine g_Vx (As := [.int (nI 2)]) (st := []) hC 1 dX9_term_51 rfl (hx0.M hM).1 (hx0.M hM).2 gX9_term_X9_failed rfl (by decide +kernel) ⟨Nat.le_of_ble_eq_true rfl, Nat.le_of_ble_eq_true rfl⟩ rfl (Nat.le_of_ble_eq_true rfl) ⟨(Nat.le_of_ble_eq_true rfl), (Nat.le_of_ble_eq_true rfl)⟩ (c2 := 0) (s2 := 0) rfl rfl (x_failed hx0 M hM 2) (fun v1 L1 f1 hp1 => ?_)
          obtain ⟨rfl, hx1⟩ := hp1
          show gW X vwCl 7 L1 f1 0 0 54 [(5, .null), (4, .int (nI 2)), (0, .ref M), (1, .int (nI pj)), (2, .int (nI qj)), (3, .int k)] [.int (fA 2)]
          have hc_q : castF S qj 4 = 2 := by unfold castF isO; rw [hk_q] <;> decide
          have hE : s_term S (nI pj) (nI qj) k = (fA 2, (aSc (thS S) 1 2)) := by
            unfold s_term
            rw [if_pos h4, if_pos h11, hpl_q, hc_q, if_pos (show 0 < 2 by decide)] <;> rfl
          exact g_iret hC hR dX9_term_54 ⟨b, congrArg (fun z => some (Value.int (Prod.fst z))) hE.symm, by rw [hE]; exact hx1, xG.rf⟩
        · exfalso; omega
      · have hw_q : wh S qj < S.1 13 := hI.wt hqj (by omega)
        have hb_q : S.2.1 14 (wh S qj) = 0 := by have := ((hI.2.1 _ hqj).2.2.2.2.2 (by omega)).2; omega
        have hp0_q : plcF (thS S) b qj = some (b.1 6 (wh S qj)) := plc_k hqj hk_q (by decide)
        have htk := hI.tk hw_q
        have htm := htk.2.1
        have hts := htk.sl
        have htk0 := hI0.tk (show wh S qj < (thS S).1 13 from hw_q)
        refine g_aald hC 5 rfl (hx0.Mp rfl).1 (hx0.Mp rfl).2 (qj) rfl (show qj < 10 by omega) (by decide) dX9_term_21 ?_
        refine g_val (w := .ref (b.1 6 (wh S qj))) (congrArg va_rf hp0_q) ?_
        refine g_S (As := [.ref (b.1 6 (wh S qj))]) (st := []) hC 1 dX9_term_22 gX9_term_X9_tableFault rfl (by decide +kernel) ⟨Nat.le_of_ble_eq_true rfl, Nat.le_of_ble_eq_true rfl⟩ rfl (Nat.le_of_ble_eq_true rfl) ⟨Nat.le_of_ble_eq_true rfl, Nat.le_of_ble_eq_true rfl⟩ (c2 := 0) (s2 := 0) rfl rfl (x_tableFault (some (b.1 6 (wh S qj))) 4 (Or.inr ⟨_, 5, _, rfl, (hx0.T hw_q rfl hb_q), Or.inr (Or.inr (Or.inr (Or.inl ⟨rfl, rfl⟩)))⟩)) ?_
        refine g_istore (lv' := [(4, .int (nI 0)), (0, .ref M), (1, .int (nI pj)), (2, .int (nI qj)), (3, .int k)]) hC dX9_term_25 (by decide) rfl ?_
        refine g_aload_n hC dX9_term_27 rfl 1 rfl (Or.inr ⟨_, rfl⟩) ?_
        refine g_get hC (by decide +kernel) rfl (hx0.M hM).1 (hx0.M hM).2 0 (by decide) (by decide +kernel) (Or.inl rfl) rfl dX9_term_28 ?_
        refine g_iload_n hC dX9_term_31 rfl 3 rfl ?_
        refine g_aald hC 5 rfl (hx0.Mp rfl).1 (hx0.Mp rfl).2 (qj) rfl (show qj < 10 by omega) (by decide) dX9_term_32 ?_
        refine g_val (w := .ref (b.1 6 (wh S qj))) (congrArg va_rf hp0_q) ?_
        refine g_S (As := [.ref (b.1 6 (wh S qj))]) (st := []) hC 1 dX9_term_33 gX9_term_X9_asTable rfl (by decide +kernel) ⟨Nat.le_of_ble_eq_true rfl, Nat.le_of_ble_eq_true rfl⟩ rfl (Nat.le_of_ble_eq_true rfl) ⟨Nat.le_of_ble_eq_true rfl, Nat.le_of_ble_eq_true rfl⟩ (c2 := 0) (s2 := 0) rfl rfl (x_asTable (some (b.1 6 (wh S qj))) 4 (Or.inr ⟨_, 5, _, rfl, (hx0.T hw_q rfl hb_q), Or.inr (Or.inr (Or.inr (Or.inl ⟨rfl, rfl⟩)))⟩)) ?_
        refine g_astore (lv' := [(5, .ref (b.1 6 (wh S qj))), (4, .int (nI 0)), (0, .ref M), (1, .int (nI pj)), (2, .int (nI qj)), (3, .int k)]) hC dX9_term_36 (by decide) rfl (Or.inr ⟨_, rfl⟩) ?_
        refine g_iload hC dX9_term_38 1 rfl ?_
        refine g_ifN_ne (a := 0) (tgt := 48) hC dX9_term_40 (by decide) (by omega) (fun h40 => ?_) (fun h40 => ?_)
        · exfalso; omega
        · refine g_aload hC dX9_term_43 0 rfl (Or.inr ⟨_, rfl⟩) ?_
          refine g_ifnonnull (o := some (b.1 6 (wh S qj))) (tgt := 55) hC dX9_term_45 (by decide) (fun a45 h45 => ?_) (fun h45 => ?_)
          · refine g_iload_n hC dX9_term_55 rfl 5 rfl ?_
            refine g_if_lt (x := k) (tgt := 68) hC dX9_term_56 (by decide) (fun h56 => ?_) (fun h56 => ?_)
            · refine g_aload_n hC dX9_term_68 rfl 2 rfl (Or.inr ⟨_, rfl⟩) ?_
              refine g_iconst hC dX9_term_69 (v := nI 3) (by decide) ?_
              refine g_Vx (As := [.int (nI 3)]) (st := []) hC 1 dX9_term_70 rfl (hx0.M hM).1 (hx0.M hM).2 gX9_term_X9_failed rfl (by decide +kernel) ⟨Nat.le_of_ble_eq_true rfl, Nat.le_of_ble_eq_true rfl⟩ rfl (Nat.le_of_ble_eq_true rfl) ⟨(Nat.le_of_ble_eq_true rfl), (Nat.le_of_ble_eq_true rfl)⟩ (c2 := 0) (s2 := 0) rfl rfl (x_failed hx0 M hM 3) (fun v1 L1 f1 hp1 => ?_)
              obtain ⟨rfl, hx1⟩ := hp1
              show gW X vwCl 7 L1 f1 0 0 73 [(5, .ref (b.1 6 (wh S qj))), (4, .int (nI 0)), (0, .ref M), (1, .int (nI pj)), (2, .int (nI qj)), (3, .int k)] [.int (fA 3)]
              have hc_q : castF S qj 4 = 0 := by unfold castF isO; rw [hk_q] <;> decide
              have hE : s_term S (nI pj) (nI qj) k = (fA 3, (aSc (thS S) 1 3)) := by
                unfold s_term
                rw [if_pos h4, if_pos h11, hpl_q, hc_q, if_neg (show ¬ 0 < 0 by decide), if_neg (show ¬ inR k (S.2.1 16 (wh S qj)) from fun z => by
                  have z := (in_R (show S.2.1 16 (wh S qj) < 2 ^ 30 by omega)).mpr z
                  have z1 := z.1
                  have z2 := z.2
                  simp only [Int32.lt_iff_toInt_lt, Int32.le_iff_toInt_le, Int32.toInt_zero] at z1 z2 h56
                  omega)] <;> rfl
              exact g_iret hC hR dX9_term_73 ⟨b, congrArg (fun z => some (Value.int (Prod.fst z))) hE.symm, by rw [hE]; exact hx1, xG.rf⟩
            · refine g_iload_n hC dX9_term_59 rfl 5 rfl ?_
              refine g_aload hC dX9_term_60 0 rfl (Or.inr ⟨_, rfl⟩) ?_
              refine g_getN hC (by decide +kernel) rfl (hx0.T hw_q rfl hb_q).1 (hx0.T hw_q rfl hb_q).2 2 (by decide) (gKK_F ("KeptTerms", 176, "KeptTerms$Table", "termCount", "I") (by decide)) (Or.inl rfl) rfl dX9_term_62 ?_
              refine g_icmp_lt (x := k) (y := nI (S.2.1 16 (wh S qj))) (tgt := 74) hC dX9_term_65 (by decide) (fun h65 => ?_) (fun h65 => ?_)
              · have hin : 0 ≤ k ∧ k < nI (S.2.1 16 (wh S qj)) := ⟨by simp only [Int32.lt_iff_toInt_lt, Int32.le_iff_toInt_le, Int32.toInt_zero] at h56 ⊢; omega, h65⟩
                have hR_k := (in_R (show S.2.1 16 (wh S qj) < 2 ^ 30 by omega)).mp hin
                obtain ⟨kj, hkj, rfl⟩ := (in_j (show S.2.1 16 (wh S qj) < 2 ^ 30 by omega)).mp hin
                have hpl_k : pl (nI kj) = kj := nI_clamp (by omega)
                refine g_aload hC dX9_term_74 0 rfl (Or.inr ⟨_, rfl⟩) ?_
                refine g_getN hC (by decide +kernel) rfl (hx0.T hw_q rfl hb_q).1 (hx0.T hw_q rfl hb_q).2 0 (by decide) (gKK_F ("KeptTerms", 179, "KeptTerms$Table", "terms", "[LKeptTerms$Bytes;") (by decide)) (Or.inl rfl) rfl dX9_term_76 ?_
                refine g_iload_n hC dX9_term_79 rfl 5 rfl ?_
                refine g_aald hC 4 rfl (hx0.Tt hw_q rfl).1 (hx0.Tt hw_q rfl).2 (kj) rfl (show kj < 100 by omega) (by decide) dX9_term_80 ?_
                have hw_x : S.2.1 20 (100 * wh S qj + kj) < S.1 4 := htk.2.2.2.2.1 kj hkj
                refine g_val (w := .ref (b.1 0 (S.2.1 20 (100 * wh S qj + kj)))) (congrArg va_rf (if_pos (show kj < S.2.1 16 (wh S qj) from hkj))) ?_
                refine g_astore (lv' := [(6, .ref (b.1 0 (S.2.1 20 (100 * wh S qj + kj)))), (5, .ref (b.1 6 (wh S qj))), (4, .int (nI 0)), (0, .ref M), (1, .int (nI pj)), (2, .int (nI qj)), (3, .int (nI kj))]) hC dX9_term_81 (by decide) rfl (Or.inr ⟨_, rfl⟩) ?_
                refine g_aload_n hC dX9_term_83 rfl 3 rfl (Or.inr ⟨_, rfl⟩) ?_
                refine g_get hC (by decide +kernel) rfl (hx0.M hM).1 (hx0.M hM).2 0 (by decide) (by decide +kernel) (Or.inl rfl) rfl dX9_term_84 ?_
                refine g_iload_n hC dX9_term_87 rfl 4 rfl ?_
                refine g_aload hC dX9_term_88 0 rfl (Or.inr ⟨_, rfl⟩) ?_
                refine g_aastO hC 5 rfl (r := (RX0, TX0, 1)) (gKK_C "KeptTerms$Bytes" "KeptTerms$Thing" (by decide)) rfl (hx0.B hw_x rfl).1 (hx0.B hw_x rfl).2 (hx0.Mp rfl).1 (hx0.Mp rfl).2 (pj) rfl (show pj < 10 by omega) (by decide) dX9_term_90 ?_
                refine g_fx (P := xR cy ((aN (aN (thS S) 2 pj 1) 3 pj (S.2.1 20 (100 * wh S qj + kj)))) b) (hx0.hold (x := 1) (r := S.2.1 20 (100 * wh S qj + kj)) hpj (by decide) rfl) (fun f1 hx1 => ?_)
                show gW X vwCl 7 L f1 0 0 91 [(6, .ref (b.1 0 (S.2.1 20 (100 * wh S qj + kj)))), (5, .ref (b.1 6 (wh S qj))), (4, .int (nI 0)), (0, .ref M), (1, .int (nI pj)), (2, .int (nI qj)), (3, .int (nI kj))] []
                refine g_aload hC dX9_term_91 0 rfl (Or.inr ⟨_, rfl⟩) ?_
                refine g_V (As := []) (st := []) hC 0 dX9_term_93 rfl (hx1.B hw_x rfl).1 (hx1.B hw_x rfl).2 gX9_term_X0_cellCount rfl (by decide +kernel) ⟨Nat.le_of_ble_eq_true rfl, Nat.le_of_ble_eq_true rfl⟩ rfl (Nat.le_of_ble_eq_true rfl) ⟨Nat.le_of_ble_eq_true rfl, Nat.le_of_ble_eq_true rfl⟩ (c2 := 0) (s2 := 0) rfl rfl (x_0_cellCount _ _ _ _ (hx1.isB hw_x rfl (hI.bl hw_x))) ?_
                have hc_q : castF S qj 4 = 0 := by unfold castF isO; rw [hk_q] <;> decide
                have hE : s_term S (nI pj) (nI qj) (nI kj) = (nI (S.2.1 5 (S.2.1 20 (100 * wh S qj + kj))), (aN (aN (thS S) 2 pj 1) 3 pj (S.2.1 20 (100 * wh S qj + kj)))) := by
                  unfold s_term
                  rw [if_pos h4, if_pos h11, hpl_q, hc_q, if_neg (show ¬ 0 < 0 by decide), if_pos hR_k, hpl_k, hpl_p] <;> rfl
                exact g_iret hC hR dX9_term_96 ⟨b, congrArg (fun z => some (Value.int (Prod.fst z))) hE.symm, by rw [hE]; exact hx1, xG.rf⟩
              · refine g_aload_n hC dX9_term_68 rfl 2 rfl (Or.inr ⟨_, rfl⟩) ?_
                refine g_iconst hC dX9_term_69 (v := nI 3) (by decide) ?_
                refine g_Vx (As := [.int (nI 3)]) (st := []) hC 1 dX9_term_70 rfl (hx0.M hM).1 (hx0.M hM).2 gX9_term_X9_failed rfl (by decide +kernel) ⟨Nat.le_of_ble_eq_true rfl, Nat.le_of_ble_eq_true rfl⟩ rfl (Nat.le_of_ble_eq_true rfl) ⟨(Nat.le_of_ble_eq_true rfl), (Nat.le_of_ble_eq_true rfl)⟩ (c2 := 0) (s2 := 0) rfl rfl (x_failed hx0 M hM 3) (fun v1 L1 f1 hp1 => ?_)
                obtain ⟨rfl, hx1⟩ := hp1
                show gW X vwCl 7 L1 f1 0 0 73 [(5, .ref (b.1 6 (wh S qj))), (4, .int (nI 0)), (0, .ref M), (1, .int (nI pj)), (2, .int (nI qj)), (3, .int k)] [.int (fA 3)]
                have hc_q : castF S qj 4 = 0 := by unfold castF isO; rw [hk_q] <;> decide
                have hE : s_term S (nI pj) (nI qj) k = (fA 3, (aSc (thS S) 1 3)) := by
                  unfold s_term
                  rw [if_pos h4, if_pos h11, hpl_q, hc_q, if_neg (show ¬ 0 < 0 by decide), if_neg (show ¬ inR k (S.2.1 16 (wh S qj)) from fun z => by
                    have z := (in_R (show S.2.1 16 (wh S qj) < 2 ^ 30 by omega)).mpr z
                    have z1 := z.1
                    have z2 := z.2
                    simp only [Int32.lt_iff_toInt_lt, Int32.le_iff_toInt_le, Int32.toInt_zero] at z1 z2 h65
                    omega)] <;> rfl
                exact g_iret hC hR dX9_term_73 ⟨b, congrArg (fun z => some (Value.int (Prod.fst z))) hE.symm, by rw [hE]; exact hx1, xG.rf⟩
          · cases h45
      · have hw_q : wh S qj < S.1 13 := hI.wt hqj (by omega)
        have hb_q : S.2.1 14 (wh S qj) ≠ 0 := by have := ((hI.2.1 _ hqj).2.2.2.2.2 (by omega)).2; omega
        have hp0_q : plcF (thS S) b qj = some (b.1 6 (wh S qj)) := plc_k hqj hk_q (by decide)
        have htk := hI.tk hw_q
        have htm := htk.2.1
        have hts := htk.sl
        have htk0 := hI0.tk (show wh S qj < (thS S).1 13 from hw_q)
        refine g_aald hC 5 rfl (hx0.Mp rfl).1 (hx0.Mp rfl).2 (qj) rfl (show qj < 10 by omega) (by decide) dX9_term_21 ?_
        refine g_val (w := .ref (b.1 6 (wh S qj))) (congrArg va_rf hp0_q) ?_
        refine g_S (As := [.ref (b.1 6 (wh S qj))]) (st := []) hC 1 dX9_term_22 gX9_term_X9_tableFault rfl (by decide +kernel) ⟨Nat.le_of_ble_eq_true rfl, Nat.le_of_ble_eq_true rfl⟩ rfl (Nat.le_of_ble_eq_true rfl) ⟨Nat.le_of_ble_eq_true rfl, Nat.le_of_ble_eq_true rfl⟩ (c2 := 0) (s2 := 0) rfl rfl (x_tableFault (some (b.1 6 (wh S qj))) 5 (Or.inr ⟨_, 1, _, rfl, (hx0.K hw_q rfl hb_q), Or.inr (Or.inr (Or.inr (Or.inr ⟨rfl, rfl⟩)))⟩)) ?_
        refine g_istore (lv' := [(4, .int (nI 0)), (0, .ref M), (1, .int (nI pj)), (2, .int (nI qj)), (3, .int k)]) hC dX9_term_25 (by decide) rfl ?_
        refine g_aload_n hC dX9_term_27 rfl 1 rfl (Or.inr ⟨_, rfl⟩) ?_
        refine g_get hC (by decide +kernel) rfl (hx0.M hM).1 (hx0.M hM).2 0 (by decide) (by decide +kernel) (Or.inl rfl) rfl dX9_term_28 ?_
        refine g_iload_n hC dX9_term_31 rfl 3 rfl ?_
        refine g_aald hC 5 rfl (hx0.Mp rfl).1 (hx0.Mp rfl).2 (qj) rfl (show qj < 10 by omega) (by decide) dX9_term_32 ?_
        refine g_val (w := .ref (b.1 6 (wh S qj))) (congrArg va_rf hp0_q) ?_
        refine g_S (As := [.ref (b.1 6 (wh S qj))]) (st := []) hC 1 dX9_term_33 gX9_term_X9_asTable rfl (by decide +kernel) ⟨Nat.le_of_ble_eq_true rfl, Nat.le_of_ble_eq_true rfl⟩ rfl (Nat.le_of_ble_eq_true rfl) ⟨Nat.le_of_ble_eq_true rfl, Nat.le_of_ble_eq_true rfl⟩ (c2 := 0) (s2 := 0) rfl rfl (x_asTable (some (b.1 6 (wh S qj))) 5 (Or.inr ⟨_, 1, _, rfl, (hx0.K hw_q rfl hb_q), Or.inr (Or.inr (Or.inr (Or.inr ⟨rfl, rfl⟩)))⟩)) ?_
        refine g_astore (lv' := [(5, .ref (b.1 6 (wh S qj))), (4, .int (nI 0)), (0, .ref M), (1, .int (nI pj)), (2, .int (nI qj)), (3, .int k)]) hC dX9_term_36 (by decide) rfl (Or.inr ⟨_, rfl⟩) ?_
        refine g_iload hC dX9_term_38 1 rfl ?_
        refine g_ifN_ne (a := 0) (tgt := 48) hC dX9_term_40 (by decide) (by omega) (fun h40 => ?_) (fun h40 => ?_)
        · exfalso; omega
        · refine g_aload hC dX9_term_43 0 rfl (Or.inr ⟨_, rfl⟩) ?_
          refine g_ifnonnull (o := some (b.1 6 (wh S qj))) (tgt := 55) hC dX9_term_45 (by decide) (fun a45 h45 => ?_) (fun h45 => ?_)
          · refine g_iload_n hC dX9_term_55 rfl 5 rfl ?_
            refine g_if_lt (x := k) (tgt := 68) hC dX9_term_56 (by decide) (fun h56 => ?_) (fun h56 => ?_)
            · refine g_aload_n hC dX9_term_68 rfl 2 rfl (Or.inr ⟨_, rfl⟩) ?_
              refine g_iconst hC dX9_term_69 (v := nI 3) (by decide) ?_
              refine g_Vx (As := [.int (nI 3)]) (st := []) hC 1 dX9_term_70 rfl (hx0.M hM).1 (hx0.M hM).2 gX9_term_X9_failed rfl (by decide +kernel) ⟨Nat.le_of_ble_eq_true rfl, Nat.le_of_ble_eq_true rfl⟩ rfl (Nat.le_of_ble_eq_true rfl) ⟨(Nat.le_of_ble_eq_true rfl), (Nat.le_of_ble_eq_true rfl)⟩ (c2 := 0) (s2 := 0) rfl rfl (x_failed hx0 M hM 3) (fun v1 L1 f1 hp1 => ?_)
              obtain ⟨rfl, hx1⟩ := hp1
              show gW X vwCl 7 L1 f1 0 0 73 [(5, .ref (b.1 6 (wh S qj))), (4, .int (nI 0)), (0, .ref M), (1, .int (nI pj)), (2, .int (nI qj)), (3, .int k)] [.int (fA 3)]
              have hc_q : castF S qj 4 = 0 := by unfold castF isO; rw [hk_q] <;> decide
              have hE : s_term S (nI pj) (nI qj) k = (fA 3, (aSc (thS S) 1 3)) := by
                unfold s_term
                rw [if_pos h4, if_pos h11, hpl_q, hc_q, if_neg (show ¬ 0 < 0 by decide), if_neg (show ¬ inR k (S.2.1 16 (wh S qj)) from fun z => by
                  have z := (in_R (show S.2.1 16 (wh S qj) < 2 ^ 30 by omega)).mpr z
                  have z1 := z.1
                  have z2 := z.2
                  simp only [Int32.lt_iff_toInt_lt, Int32.le_iff_toInt_le, Int32.toInt_zero] at z1 z2 h56
                  omega)] <;> rfl
              exact g_iret hC hR dX9_term_73 ⟨b, congrArg (fun z => some (Value.int (Prod.fst z))) hE.symm, by rw [hE]; exact hx1, xG.rf⟩
            · refine g_iload_n hC dX9_term_59 rfl 5 rfl ?_
              refine g_aload hC dX9_term_60 0 rfl (Or.inr ⟨_, rfl⟩) ?_
              refine g_getN hC (by decide +kernel) rfl (hx0.K hw_q rfl hb_q).1 (hx0.K hw_q rfl hb_q).2 2 (by decide) (gKK_F ("KeptTerms", 176, "KeptTerms$Table", "termCount", "I") (by decide)) (Or.inl rfl) rfl dX9_term_62 ?_
              refine g_icmp_lt (x := k) (y := nI (S.2.1 16 (wh S qj))) (tgt := 74) hC dX9_term_65 (by decide) (fun h65 => ?_) (fun h65 => ?_)
              · have hin : 0 ≤ k ∧ k < nI (S.2.1 16 (wh S qj)) := ⟨by simp only [Int32.lt_iff_toInt_lt, Int32.le_iff_toInt_le, Int32.toInt_zero] at h56 ⊢; omega, h65⟩
                have hR_k := (in_R (show S.2.1 16 (wh S qj) < 2 ^ 30 by omega)).mp hin
                obtain ⟨kj, hkj, rfl⟩ := (in_j (show S.2.1 16 (wh S qj) < 2 ^ 30 by omega)).mp hin
                have hpl_k : pl (nI kj) = kj := nI_clamp (by omega)
                refine g_aload hC dX9_term_74 0 rfl (Or.inr ⟨_, rfl⟩) ?_
                refine g_getN hC (by decide +kernel) rfl (hx0.K hw_q rfl hb_q).1 (hx0.K hw_q rfl hb_q).2 0 (by decide) (gKK_F ("KeptTerms", 179, "KeptTerms$Table", "terms", "[LKeptTerms$Bytes;") (by decide)) (Or.inl rfl) rfl dX9_term_76 ?_
                refine g_iload_n hC dX9_term_79 rfl 5 rfl ?_
                refine g_aald hC 4 rfl (hx0.Tt hw_q rfl).1 (hx0.Tt hw_q rfl).2 (kj) rfl (show kj < 100 by omega) (by decide) dX9_term_80 ?_
                have hw_x : S.2.1 20 (100 * wh S qj + kj) < S.1 4 := htk.2.2.2.2.1 kj hkj
                refine g_val (w := .ref (b.1 0 (S.2.1 20 (100 * wh S qj + kj)))) (congrArg va_rf (if_pos (show kj < S.2.1 16 (wh S qj) from hkj))) ?_
                refine g_astore (lv' := [(6, .ref (b.1 0 (S.2.1 20 (100 * wh S qj + kj)))), (5, .ref (b.1 6 (wh S qj))), (4, .int (nI 0)), (0, .ref M), (1, .int (nI pj)), (2, .int (nI qj)), (3, .int (nI kj))]) hC dX9_term_81 (by decide) rfl (Or.inr ⟨_, rfl⟩) ?_
                refine g_aload_n hC dX9_term_83 rfl 3 rfl (Or.inr ⟨_, rfl⟩) ?_
                refine g_get hC (by decide +kernel) rfl (hx0.M hM).1 (hx0.M hM).2 0 (by decide) (by decide +kernel) (Or.inl rfl) rfl dX9_term_84 ?_
                refine g_iload_n hC dX9_term_87 rfl 4 rfl ?_
                refine g_aload hC dX9_term_88 0 rfl (Or.inr ⟨_, rfl⟩) ?_
                refine g_aastO hC 5 rfl (r := (RX0, TX0, 1)) (gKK_C "KeptTerms$Bytes" "KeptTerms$Thing" (by decide)) rfl (hx0.B hw_x rfl).1 (hx0.B hw_x rfl).2 (hx0.Mp rfl).1 (hx0.Mp rfl).2 (pj) rfl (show pj < 10 by omega) (by decide) dX9_term_90 ?_
                refine g_fx (P := xR cy ((aN (aN (thS S) 2 pj 1) 3 pj (S.2.1 20 (100 * wh S qj + kj)))) b) (hx0.hold (x := 1) (r := S.2.1 20 (100 * wh S qj + kj)) hpj (by decide) rfl) (fun f1 hx1 => ?_)
                show gW X vwCl 7 L f1 0 0 91 [(6, .ref (b.1 0 (S.2.1 20 (100 * wh S qj + kj)))), (5, .ref (b.1 6 (wh S qj))), (4, .int (nI 0)), (0, .ref M), (1, .int (nI pj)), (2, .int (nI qj)), (3, .int (nI kj))] []
                refine g_aload hC dX9_term_91 0 rfl (Or.inr ⟨_, rfl⟩) ?_
                refine g_V (As := []) (st := []) hC 0 dX9_term_93 rfl (hx1.B hw_x rfl).1 (hx1.B hw_x rfl).2 gX9_term_X0_cellCount rfl (by decide +kernel) ⟨Nat.le_of_ble_eq_true rfl, Nat.le_of_ble_eq_true rfl⟩ rfl (Nat.le_of_ble_eq_true rfl) ⟨Nat.le_of_ble_eq_true rfl, Nat.le_of_ble_eq_true rfl⟩ (c2 := 0) (s2 := 0) rfl rfl (x_0_cellCount _ _ _ _ (hx1.isB hw_x rfl (hI.bl hw_x))) ?_
                have hc_q : castF S qj 4 = 0 := by unfold castF isO; rw [hk_q] <;> decide
                have hE : s_term S (nI pj) (nI qj) (nI kj) = (nI (S.2.1 5 (S.2.1 20 (100 * wh S qj + kj))), (aN (aN (thS S) 2 pj 1) 3 pj (S.2.1 20 (100 * wh S qj + kj)))) := by
                  unfold s_term
                  rw [if_pos h4, if_pos h11, hpl_q, hc_q, if_neg (show ¬ 0 < 0 by decide), if_pos hR_k, hpl_k, hpl_p] <;> rfl
                exact g_iret hC hR dX9_term_96 ⟨b, congrArg (fun z => some (Value.int (Prod.fst z))) hE.symm, by rw [hE]; exact hx1, xG.rf⟩
              · refine g_aload_n hC dX9_term_68 rfl 2 rfl (Or.inr ⟨_, rfl⟩) ?_
                refine g_iconst hC dX9_term_69 (v := nI 3) (by decide) ?_
                refine g_Vx (As := [.int (nI 3)]) (st := []) hC 1 dX9_term_70 rfl (hx0.M hM).1 (hx0.M hM).2 gX9_term_X9_failed rfl (by decide +kernel) ⟨Nat.le_of_ble_eq_true rfl, Nat.le_of_ble_eq_true rfl⟩ rfl (Nat.le_of_ble_eq_true rfl) ⟨(Nat.le_of_ble_eq_true rfl), (Nat.le_of_ble_eq_true rfl)⟩ (c2 := 0) (s2 := 0) rfl rfl (x_failed hx0 M hM 3) (fun v1 L1 f1 hp1 => ?_)
                obtain ⟨rfl, hx1⟩ := hp1
                show gW X vwCl 7 L1 f1 0 0 73 [(5, .ref (b.1 6 (wh S qj))), (4, .int (nI 0)), (0, .ref M), (1, .int (nI pj)), (2, .int (nI qj)), (3, .int k)] [.int (fA 3)]
                have hc_q : castF S qj 4 = 0 := by unfold castF isO; rw [hk_q] <;> decide
                have hE : s_term S (nI pj) (nI qj) k = (fA 3, (aSc (thS S) 1 3)) := by
                  unfold s_term
                  rw [if_pos h4, if_pos h11, hpl_q, hc_q, if_neg (show ¬ 0 < 0 by decide), if_neg (show ¬ inR k (S.2.1 16 (wh S qj)) from fun z => by
                    have z := (in_R (show S.2.1 16 (wh S qj) < 2 ^ 30 by omega)).mpr z
                    have z1 := z.1
                    have z2 := z.2
                    simp only [Int32.lt_iff_toInt_lt, Int32.le_iff_toInt_le, Int32.toInt_zero] at z1 z2 h65
                    omega)] <;> rfl
                exact g_iret hC hR dX9_term_73 ⟨b, congrArg (fun z => some (Value.int (Prod.fst z))) hE.symm, by rw [hE]; exact hx1, xG.rf⟩
          · cases h45
    · refine g_iconst hC dX9_term_14 (v := (-1)) (by decide) ?_
      have hE : s_term S (nI pj) q k = ((-1), (thS S)) := by
        unfold s_term
        rw [if_pos h4, if_neg h11] <;> rfl
      exact g_iret hC hR dX9_term_15 ⟨b, congrArg (fun z => some (Value.int (Prod.fst z))) hE.symm, by rw [hE]; exact hx0, xG.rf⟩
set_option maxRecDepth 20000 in
set_option maxHeartbeats 4000000 in
theorem y_ranked {S : aS} {b : xB} (hx : xR cy S b L f) (hI : aI S) (M : Nat) (hM : b.1 9 0 = M) (p i : Int32) : gCt l D vwCl (gKK D cy adK adV) yX9_ranked wsX9_ranked { frames := 5, cells := 0, slots := 0, locals := 103 } [.ref M, .int p, .int i] L f (xP cy S b (s_ranked S p i).2 (fun _ => some (.int (s_ranked S p i).1))) := by
  refine gCt.of gKK_ok (by decide) rfl rfl (fun X hC hR hnm => ?_)
  have hC : gC X l _ D vwCl (cyT cy) (gKK D cy adK adV) cX9_ranked 5 wsX9_ranked RX9 := hC
  have hx0 := hx.th0
  have hI0 := hI.th
  show gW X vwCl 5 L f 0 0 0 [(0, .ref M), (1, .int p), (2, .int i)] []
  refine g_iload_n hC dX9_ranked_0 rfl 1 rfl ?_
  refine g_S (As := [.int p]) (st := []) hC 1 dX9_ranked_1 gX9_ranked_X9_isPlace rfl (by decide +kernel) ⟨Nat.le_of_ble_eq_true rfl, Nat.le_of_ble_eq_true rfl⟩ rfl (Nat.le_of_ble_eq_true rfl) ⟨Nat.le_of_ble_eq_true rfl, Nat.le_of_ble_eq_true rfl⟩ (c2 := 0) (s2 := 0) rfl rfl (x_isPlace _) ?_
  refine g_ifB_ne (P := isP p) (tgt := 9) hC dX9_ranked_4 (by decide) (fun h4 => ?_) (fun h4 => ?_)
  · obtain ⟨pj, hpj, rfl⟩ := isP_j h4
    have hpl_p : pl (nI pj) = pj := nI_clamp (by omega)
    refine g_aload_n hC dX9_ranked_9 rfl 0 rfl (Or.inr ⟨_, rfl⟩) ?_
    refine g_get hC (by decide +kernel) rfl (hx0.M hM).1 (hx0.M hM).2 0 (by decide) (by decide +kernel) (Or.inl rfl) rfl dX9_ranked_10 ?_
    refine g_iload_n hC dX9_ranked_13 rfl 1 rfl ?_
    have h5_p := hI.k5 hpj
    rcases (show kd S pj = 0 ∨ kd S pj = 1 ∨ kd S pj = 2 ∨ kd S pj = 3 ∨ kd S pj = 4 ∨ kd S pj = 5 by omega) with hk_p | hk_p | hk_p | hk_p | hk_p | hk_p
    · have hp0_p : plcF (thS S) b pj = none := plc_0 hpj hk_p
      refine g_aald hC 5 rfl (hx0.Mp rfl).1 (hx0.Mp rfl).2 (pj) rfl (show pj < 10 by omega) (by decide) dX9_ranked_14 ?_
      refine g_val (w := .null) (congrArg va_rf hp0_p) ?_
      refine g_S (As := [.null]) (st := []) hC 1 dX9_ranked_15 gX9_ranked_X9_tableFault rfl (by decide +kernel) ⟨Nat.le_of_ble_eq_true rfl, Nat.le_of_ble_eq_true rfl⟩ rfl (Nat.le_of_ble_eq_true rfl) ⟨Nat.le_of_ble_eq_true rfl, Nat.le_of_ble_eq_true rfl⟩ (c2 := 0) (s2 := 0) rfl rfl (x_tableFault none 0 (Or.inl ⟨rfl, rfl⟩)) ?_
      refine g_istore_n (lv' := [(3, .int (nI 1)), (0, .ref M), (1, .int (nI pj)), (2, .int i)]) hC dX9_ranked_18 rfl (by decide) rfl ?_
      refine g_aload_n hC dX9_ranked_19 rfl 1 rfl (Or.inr ⟨_, rfl⟩) ?_
      refine g_get hC (by decide +kernel) rfl (hx0.M hM).1 (hx0.M hM).2 0 (by decide) (by decide +kernel) (Or.inl rfl) rfl dX9_ranked_20 ?_
      refine g_iload_n hC dX9_ranked_23 rfl 2 rfl ?_
      refine g_aald hC 5 rfl (hx0.Mp rfl).1 (hx0.Mp rfl).2 (pj) rfl (show pj < 10 by omega) (by decide) dX9_ranked_24 ?_
      refine g_val (w := .null) (congrArg va_rf hp0_p) ?_
      refine g_S (As := [.null]) (st := []) hC 1 dX9_ranked_25 gX9_ranked_X9_asTable rfl (by decide +kernel) ⟨Nat.le_of_ble_eq_true rfl, Nat.le_of_ble_eq_true rfl⟩ rfl (Nat.le_of_ble_eq_true rfl) ⟨Nat.le_of_ble_eq_true rfl, Nat.le_of_ble_eq_true rfl⟩ (c2 := 0) (s2 := 0) rfl rfl (x_asTable none 0 (Or.inl ⟨rfl, rfl⟩)) ?_
      refine g_astore (lv' := [(4, .null), (3, .int (nI 1)), (0, .ref M), (1, .int (nI pj)), (2, .int i)]) hC dX9_ranked_28 (by decide) rfl (Or.inl rfl) ?_
      refine g_iload_n hC dX9_ranked_30 rfl 1 rfl ?_
      refine g_ifN_ne (a := 1) (tgt := 39) hC dX9_ranked_31 (by decide) (by omega) (fun h31 => ?_) (fun h31 => ?_)
      · refine g_aload_n hC dX9_ranked_39 rfl 2 rfl (Or.inr ⟨_, rfl⟩) ?_
        refine g_iload_n hC dX9_ranked_40 rfl 1 rfl ?_
        refine g_Vx (As := [.int (nI 1)]) (st := []) hC 1 dX9_ranked_41 rfl (hx0.M hM).1 (hx0.M hM).2 gX9_ranked_X9_failed rfl (by decide +kernel) ⟨Nat.le_of_ble_eq_true rfl, Nat.le_of_ble_eq_true rfl⟩ rfl (Nat.le_of_ble_eq_true rfl) ⟨(Nat.le_of_ble_eq_true rfl), (Nat.le_of_ble_eq_true rfl)⟩ (c2 := 0) (s2 := 0) rfl rfl (x_failed hx0 M hM 1) (fun v1 L1 f1 hp1 => ?_)
        obtain ⟨rfl, hx1⟩ := hp1
        show gW X vwCl 5 L1 f1 0 0 44 [(4, .null), (3, .int (nI 1)), (0, .ref M), (1, .int (nI pj)), (2, .int i)] [.int (fA 1)]
        have hc_p : castF S pj 4 = 1 := by unfold castF isO; rw [hk_p] <;> decide
        have hE : s_ranked S (nI pj) i = (fA 1, (aSc (thS S) 1 1)) := by
          unfold s_ranked
          rw [if_pos h4, hpl_p, hc_p, if_pos (show 0 < 1 by decide)] <;> rfl
        exact g_iret hC hR dX9_ranked_44 ⟨b, congrArg (fun z => some (Value.int (Prod.fst z))) hE.symm, by rw [hE]; exact hx1, xG.rf⟩
      · exfalso; omega
    · have hw_p : wh S pj < S.1 4 := hI.wl hpj hk_p
      have hp0_p : plcF (thS S) b pj = some (b.1 0 (wh S pj)) := plc_k hpj hk_p (by decide)
      refine g_aald hC 5 rfl (hx0.Mp rfl).1 (hx0.Mp rfl).2 (pj) rfl (show pj < 10 by omega) (by decide) dX9_ranked_14 ?_
      refine g_val (w := .ref (b.1 0 (wh S pj))) (congrArg va_rf hp0_p) ?_
      refine g_S (As := [.ref (b.1 0 (wh S pj))]) (st := []) hC 1 dX9_ranked_15 gX9_ranked_X9_tableFault rfl (by decide +kernel) ⟨Nat.le_of_ble_eq_true rfl, Nat.le_of_ble_eq_true rfl⟩ rfl (Nat.le_of_ble_eq_true rfl) ⟨Nat.le_of_ble_eq_true rfl, Nat.le_of_ble_eq_true rfl⟩ (c2 := 0) (s2 := 0) rfl rfl (x_tableFault (some (b.1 0 (wh S pj))) 1 (Or.inr ⟨_, 0, _, rfl, (hx0.B hw_p rfl), Or.inl ⟨rfl, rfl⟩⟩)) ?_
      refine g_istore_n (lv' := [(3, .int (nI 2)), (0, .ref M), (1, .int (nI pj)), (2, .int i)]) hC dX9_ranked_18 rfl (by decide) rfl ?_
      refine g_aload_n hC dX9_ranked_19 rfl 1 rfl (Or.inr ⟨_, rfl⟩) ?_
      refine g_get hC (by decide +kernel) rfl (hx0.M hM).1 (hx0.M hM).2 0 (by decide) (by decide +kernel) (Or.inl rfl) rfl dX9_ranked_20 ?_
      refine g_iload_n hC dX9_ranked_23 rfl 2 rfl ?_
      refine g_aald hC 5 rfl (hx0.Mp rfl).1 (hx0.Mp rfl).2 (pj) rfl (show pj < 10 by omega) (by decide) dX9_ranked_24 ?_
      refine g_val (w := .ref (b.1 0 (wh S pj))) (congrArg va_rf hp0_p) ?_
      refine g_S (As := [.ref (b.1 0 (wh S pj))]) (st := []) hC 1 dX9_ranked_25 gX9_ranked_X9_asTable rfl (by decide +kernel) ⟨Nat.le_of_ble_eq_true rfl, Nat.le_of_ble_eq_true rfl⟩ rfl (Nat.le_of_ble_eq_true rfl) ⟨Nat.le_of_ble_eq_true rfl, Nat.le_of_ble_eq_true rfl⟩ (c2 := 0) (s2 := 0) rfl rfl (x_asTable (some (b.1 0 (wh S pj))) 1 (Or.inr ⟨_, 0, _, rfl, (hx0.B hw_p rfl), Or.inl ⟨rfl, rfl⟩⟩)) ?_
      refine g_astore (lv' := [(4, .null), (3, .int (nI 2)), (0, .ref M), (1, .int (nI pj)), (2, .int i)]) hC dX9_ranked_28 (by decide) rfl (Or.inl rfl) ?_
      refine g_iload_n hC dX9_ranked_30 rfl 1 rfl ?_
      refine g_ifN_ne (a := 2) (tgt := 39) hC dX9_ranked_31 (by decide) (by omega) (fun h31 => ?_) (fun h31 => ?_)
      · refine g_aload_n hC dX9_ranked_39 rfl 2 rfl (Or.inr ⟨_, rfl⟩) ?_
        refine g_iload_n hC dX9_ranked_40 rfl 1 rfl ?_
        refine g_Vx (As := [.int (nI 2)]) (st := []) hC 1 dX9_ranked_41 rfl (hx0.M hM).1 (hx0.M hM).2 gX9_ranked_X9_failed rfl (by decide +kernel) ⟨Nat.le_of_ble_eq_true rfl, Nat.le_of_ble_eq_true rfl⟩ rfl (Nat.le_of_ble_eq_true rfl) ⟨(Nat.le_of_ble_eq_true rfl), (Nat.le_of_ble_eq_true rfl)⟩ (c2 := 0) (s2 := 0) rfl rfl (x_failed hx0 M hM 2) (fun v1 L1 f1 hp1 => ?_)
        obtain ⟨rfl, hx1⟩ := hp1
        show gW X vwCl 5 L1 f1 0 0 44 [(4, .null), (3, .int (nI 2)), (0, .ref M), (1, .int (nI pj)), (2, .int i)] [.int (fA 2)]
        have hc_p : castF S pj 4 = 2 := by unfold castF isO; rw [hk_p] <;> decide
        have hE : s_ranked S (nI pj) i = (fA 2, (aSc (thS S) 1 2)) := by
          unfold s_ranked
          rw [if_pos h4, hpl_p, hc_p, if_pos (show 0 < 2 by decide)] <;> rfl
        exact g_iret hC hR dX9_ranked_44 ⟨b, congrArg (fun z => some (Value.int (Prod.fst z))) hE.symm, by rw [hE]; exact hx1, xG.rf⟩
      · exfalso; omega
    · have hw_p : wh S pj < S.1 7 := hI.ws hpj hk_p
      have hp0_p : plcF (thS S) b pj = some (b.1 2 (wh S pj)) := plc_k hpj hk_p (by decide)
      refine g_aald hC 5 rfl (hx0.Mp rfl).1 (hx0.Mp rfl).2 (pj) rfl (show pj < 10 by omega) (by decide) dX9_ranked_14 ?_
      refine g_val (w := .ref (b.1 2 (wh S pj))) (congrArg va_rf hp0_p) ?_
      refine g_S (As := [.ref (b.1 2 (wh S pj))]) (st := []) hC 1 dX9_ranked_15 gX9_ranked_X9_tableFault rfl (by decide +kernel) ⟨Nat.le_of_ble_eq_true rfl, Nat.le_of_ble_eq_true rfl⟩ rfl (Nat.le_of_ble_eq_true rfl) ⟨Nat.le_of_ble_eq_true rfl, Nat.le_of_ble_eq_true rfl⟩ (c2 := 0) (s2 := 0) rfl rfl (x_tableFault (some (b.1 2 (wh S pj))) 2 (Or.inr ⟨_, 4, _, rfl, (hx0.G hw_p rfl), Or.inr (Or.inl ⟨rfl, rfl⟩)⟩)) ?_
      refine g_istore_n (lv' := [(3, .int (nI 2)), (0, .ref M), (1, .int (nI pj)), (2, .int i)]) hC dX9_ranked_18 rfl (by decide) rfl ?_
      refine g_aload_n hC dX9_ranked_19 rfl 1 rfl (Or.inr ⟨_, rfl⟩) ?_
      refine g_get hC (by decide +kernel) rfl (hx0.M hM).1 (hx0.M hM).2 0 (by decide) (by decide +kernel) (Or.inl rfl) rfl dX9_ranked_20 ?_
      refine g_iload_n hC dX9_ranked_23 rfl 2 rfl ?_
      refine g_aald hC 5 rfl (hx0.Mp rfl).1 (hx0.Mp rfl).2 (pj) rfl (show pj < 10 by omega) (by decide) dX9_ranked_24 ?_
      refine g_val (w := .ref (b.1 2 (wh S pj))) (congrArg va_rf hp0_p) ?_
      refine g_S (As := [.ref (b.1 2 (wh S pj))]) (st := []) hC 1 dX9_ranked_25 gX9_ranked_X9_asTable rfl (by decide +kernel) ⟨Nat.le_of_ble_eq_true rfl, Nat.le_of_ble_eq_true rfl⟩ rfl (Nat.le_of_ble_eq_true rfl) ⟨Nat.le_of_ble_eq_true rfl, Nat.le_of_ble_eq_true rfl⟩ (c2 := 0) (s2 := 0) rfl rfl (x_asTable (some (b.1 2 (wh S pj))) 2 (Or.inr ⟨_, 4, _, rfl, (hx0.G hw_p rfl), Or.inr (Or.inl ⟨rfl, rfl⟩)⟩)) ?_
      refine g_astore (lv' := [(4, .null), (3, .int (nI 2)), (0, .ref M), (1, .int (nI pj)), (2, .int i)]) hC dX9_ranked_28 (by decide) rfl (Or.inl rfl) ?_
      refine g_iload_n hC dX9_ranked_30 rfl 1 rfl ?_
      refine g_ifN_ne (a := 2) (tgt := 39) hC dX9_ranked_31 (by decide) (by omega) (fun h31 => ?_) (fun h31 => ?_)
      · refine g_aload_n hC dX9_ranked_39 rfl 2 rfl (Or.inr ⟨_, rfl⟩) ?_
        refine g_iload_n hC dX9_ranked_40 rfl 1 rfl ?_
        refine g_Vx (As := [.int (nI 2)]) (st := []) hC 1 dX9_ranked_41 rfl (hx0.M hM).1 (hx0.M hM).2 gX9_ranked_X9_failed rfl (by decide +kernel) ⟨Nat.le_of_ble_eq_true rfl, Nat.le_of_ble_eq_true rfl⟩ rfl (Nat.le_of_ble_eq_true rfl) ⟨(Nat.le_of_ble_eq_true rfl), (Nat.le_of_ble_eq_true rfl)⟩ (c2 := 0) (s2 := 0) rfl rfl (x_failed hx0 M hM 2) (fun v1 L1 f1 hp1 => ?_)
        obtain ⟨rfl, hx1⟩ := hp1
        show gW X vwCl 5 L1 f1 0 0 44 [(4, .null), (3, .int (nI 2)), (0, .ref M), (1, .int (nI pj)), (2, .int i)] [.int (fA 2)]
        have hc_p : castF S pj 4 = 2 := by unfold castF isO; rw [hk_p] <;> decide
        have hE : s_ranked S (nI pj) i = (fA 2, (aSc (thS S) 1 2)) := by
          unfold s_ranked
          rw [if_pos h4, hpl_p, hc_p, if_pos (show 0 < 2 by decide)] <;> rfl
        exact g_iret hC hR dX9_ranked_44 ⟨b, congrArg (fun z => some (Value.int (Prod.fst z))) hE.symm, by rw [hE]; exact hx1, xG.rf⟩
      · exfalso; omega
    · have hw_p : wh S pj < S.1 10 := hI.wr hpj hk_p
      have hp0_p : plcF (thS S) b pj = some (b.1 4 (wh S pj)) := plc_k hpj hk_p (by decide)
      refine g_aald hC 5 rfl (hx0.Mp rfl).1 (hx0.Mp rfl).2 (pj) rfl (show pj < 10 by omega) (by decide) dX9_ranked_14 ?_
      refine g_val (w := .ref (b.1 4 (wh S pj))) (congrArg va_rf hp0_p) ?_
      refine g_S (As := [.ref (b.1 4 (wh S pj))]) (st := []) hC 1 dX9_ranked_15 gX9_ranked_X9_tableFault rfl (by decide +kernel) ⟨Nat.le_of_ble_eq_true rfl, Nat.le_of_ble_eq_true rfl⟩ rfl (Nat.le_of_ble_eq_true rfl) ⟨Nat.le_of_ble_eq_true rfl, Nat.le_of_ble_eq_true rfl⟩ (c2 := 0) (s2 := 0) rfl rfl (x_tableFault (some (b.1 4 (wh S pj))) 3 (Or.inr ⟨_, 3, _, rfl, (hx0.W hw_p rfl), Or.inr (Or.inr (Or.inl ⟨rfl, rfl⟩))⟩)) ?_
      refine g_istore_n (lv' := [(3, .int (nI 2)), (0, .ref M), (1, .int (nI pj)), (2, .int i)]) hC dX9_ranked_18 rfl (by decide) rfl ?_
      refine g_aload_n hC dX9_ranked_19 rfl 1 rfl (Or.inr ⟨_, rfl⟩) ?_
      refine g_get hC (by decide +kernel) rfl (hx0.M hM).1 (hx0.M hM).2 0 (by decide) (by decide +kernel) (Or.inl rfl) rfl dX9_ranked_20 ?_
      refine g_iload_n hC dX9_ranked_23 rfl 2 rfl ?_
      refine g_aald hC 5 rfl (hx0.Mp rfl).1 (hx0.Mp rfl).2 (pj) rfl (show pj < 10 by omega) (by decide) dX9_ranked_24 ?_
      refine g_val (w := .ref (b.1 4 (wh S pj))) (congrArg va_rf hp0_p) ?_
      refine g_S (As := [.ref (b.1 4 (wh S pj))]) (st := []) hC 1 dX9_ranked_25 gX9_ranked_X9_asTable rfl (by decide +kernel) ⟨Nat.le_of_ble_eq_true rfl, Nat.le_of_ble_eq_true rfl⟩ rfl (Nat.le_of_ble_eq_true rfl) ⟨Nat.le_of_ble_eq_true rfl, Nat.le_of_ble_eq_true rfl⟩ (c2 := 0) (s2 := 0) rfl rfl (x_asTable (some (b.1 4 (wh S pj))) 3 (Or.inr ⟨_, 3, _, rfl, (hx0.W hw_p rfl), Or.inr (Or.inr (Or.inl ⟨rfl, rfl⟩))⟩)) ?_
      refine g_astore (lv' := [(4, .null), (3, .int (nI 2)), (0, .ref M), (1, .int (nI pj)), (2, .int i)]) hC dX9_ranked_28 (by decide) rfl (Or.inl rfl) ?_
      refine g_iload_n hC dX9_ranked_30 rfl 1 rfl ?_
      refine g_ifN_ne (a := 2) (tgt := 39) hC dX9_ranked_31 (by decide) (by omega) (fun h31 => ?_) (fun h31 => ?_)
      · refine g_aload_n hC dX9_ranked_39 rfl 2 rfl (Or.inr ⟨_, rfl⟩) ?_
        refine g_iload_n hC dX9_ranked_40 rfl 1 rfl ?_
        refine g_Vx (As := [.int (nI 2)]) (st := []) hC 1 dX9_ranked_41 rfl (hx0.M hM).1 (hx0.M hM).2 gX9_ranked_X9_failed rfl (by decide +kernel) ⟨Nat.le_of_ble_eq_true rfl, Nat.le_of_ble_eq_true rfl⟩ rfl (Nat.le_of_ble_eq_true rfl) ⟨(Nat.le_of_ble_eq_true rfl), (Nat.le_of_ble_eq_true rfl)⟩ (c2 := 0) (s2 := 0) rfl rfl (x_failed hx0 M hM 2) (fun v1 L1 f1 hp1 => ?_)
        obtain ⟨rfl, hx1⟩ := hp1
        show gW X vwCl 5 L1 f1 0 0 44 [(4, .null), (3, .int (nI 2)), (0, .ref M), (1, .int (nI pj)), (2, .int i)] [.int (fA 2)]
        have hc_p : castF S pj 4 = 2 := by unfold castF isO; rw [hk_p] <;> decide
        have hE : s_ranked S (nI pj) i = (fA 2, (aSc (thS S) 1 2)) := by
          unfold s_ranked
          rw [if_pos h4, hpl_p, hc_p, if_pos (show 0 < 2 by decide)] <;> rfl
        exact g_iret hC hR dX9_ranked_44 ⟨b, congrArg (fun z => some (Value.int (Prod.fst z))) hE.symm, by rw [hE]; exact hx1, xG.rf⟩
      · exfalso; omega
    · have hw_p : wh S pj < S.1 13 := hI.wt hpj (by omega)
      have hb_p : S.2.1 14 (wh S pj) = 0 := by have := ((hI.2.1 _ hpj).2.2.2.2.2 (by omega)).2; omega
      have hp0_p : plcF (thS S) b pj = some (b.1 6 (wh S pj)) := plc_k hpj hk_p (by decide)
      have htk := hI.tk hw_p
      have htm := htk.2.1
      have hts := htk.sl
      have htk0 := hI0.tk (show wh S pj < (thS S).1 13 from hw_p)
      refine g_aald hC 5 rfl (hx0.Mp rfl).1 (hx0.Mp rfl).2 (pj) rfl (show pj < 10 by omega) (by decide) dX9_ranked_14 ?_
      refine g_val (w := .ref (b.1 6 (wh S pj))) (congrArg va_rf hp0_p) ?_
      refine g_S (As := [.ref (b.1 6 (wh S pj))]) (st := []) hC 1 dX9_ranked_15 gX9_ranked_X9_tableFault rfl (by decide +kernel) ⟨Nat.le_of_ble_eq_true rfl, Nat.le_of_ble_eq_true rfl⟩ rfl (Nat.le_of_ble_eq_true rfl) ⟨Nat.le_of_ble_eq_true rfl, Nat.le_of_ble_eq_true rfl⟩ (c2 := 0) (s2 := 0) rfl rfl (x_tableFault (some (b.1 6 (wh S pj))) 4 (Or.inr ⟨_, 5, _, rfl, (hx0.T hw_p rfl hb_p), Or.inr (Or.inr (Or.inr (Or.inl ⟨rfl, rfl⟩)))⟩)) ?_
      refine g_istore_n (lv' := [(3, .int (nI 0)), (0, .ref M), (1, .int (nI pj)), (2, .int i)]) hC dX9_ranked_18 rfl (by decide) rfl ?_
      refine g_aload_n hC dX9_ranked_19 rfl 1 rfl (Or.inr ⟨_, rfl⟩) ?_
      refine g_get hC (by decide +kernel) rfl (hx0.M hM).1 (hx0.M hM).2 0 (by decide) (by decide +kernel) (Or.inl rfl) rfl dX9_ranked_20 ?_
      refine g_iload_n hC dX9_ranked_23 rfl 2 rfl ?_
      refine g_aald hC 5 rfl (hx0.Mp rfl).1 (hx0.Mp rfl).2 (pj) rfl (show pj < 10 by omega) (by decide) dX9_ranked_24 ?_
      refine g_val (w := .ref (b.1 6 (wh S pj))) (congrArg va_rf hp0_p) ?_
      refine g_S (As := [.ref (b.1 6 (wh S pj))]) (st := []) hC 1 dX9_ranked_25 gX9_ranked_X9_asTable rfl (by decide +kernel) ⟨Nat.le_of_ble_eq_true rfl, Nat.le_of_ble_eq_true rfl⟩ rfl (Nat.le_of_ble_eq_true rfl) ⟨Nat.le_of_ble_eq_true rfl, Nat.le_of_ble_eq_true rfl⟩ (c2 := 0) (s2 := 0) rfl rfl (x_asTable (some (b.1 6 (wh S pj))) 4 (Or.inr ⟨_, 5, _, rfl, (hx0.T hw_p rfl hb_p), Or.inr (Or.inr (Or.inr (Or.inl ⟨rfl, rfl⟩)))⟩)) ?_
      refine g_astore (lv' := [(4, .ref (b.1 6 (wh S pj))), (3, .int (nI 0)), (0, .ref M), (1, .int (nI pj)), (2, .int i)]) hC dX9_ranked_28 (by decide) rfl (Or.inr ⟨_, rfl⟩) ?_
      refine g_iload_n hC dX9_ranked_30 rfl 1 rfl ?_
      refine g_ifN_ne (a := 0) (tgt := 39) hC dX9_ranked_31 (by decide) (by omega) (fun h31 => ?_) (fun h31 => ?_)
      · exfalso; omega
      · refine g_aload hC dX9_ranked_34 0 rfl (Or.inr ⟨_, rfl⟩) ?_
        refine g_ifnonnull (o := some (b.1 6 (wh S pj))) (tgt := 45) hC dX9_ranked_36 (by decide) (fun a36 h36 => ?_) (fun h36 => ?_)
        · refine g_iload_n hC dX9_ranked_45 rfl 4 rfl ?_
          refine g_if_lt (x := i) (tgt := 58) hC dX9_ranked_46 (by decide) (fun h46 => ?_) (fun h46 => ?_)
          · refine g_aload_n hC dX9_ranked_58 rfl 2 rfl (Or.inr ⟨_, rfl⟩) ?_
            refine g_iconst hC dX9_ranked_59 (v := nI 3) (by decide) ?_
            refine g_Vx (As := [.int (nI 3)]) (st := []) hC 1 dX9_ranked_60 rfl (hx0.M hM).1 (hx0.M hM).2 gX9_ranked_X9_failed rfl (by decide +kernel) ⟨Nat.le_of_ble_eq_true rfl, Nat.le_of_ble_eq_true rfl⟩ rfl (Nat.le_of_ble_eq_true rfl) ⟨(Nat.le_of_ble_eq_true rfl), (Nat.le_of_ble_eq_true rfl)⟩ (c2 := 0) (s2 := 0) rfl rfl (x_failed hx0 M hM 3) (fun v1 L1 f1 hp1 => ?_)
            obtain ⟨rfl, hx1⟩ := hp1
            show gW X vwCl 5 L1 f1 0 0 63 [(4, .ref (b.1 6 (wh S pj))), (3, .int (nI 0)), (0, .ref M), (1, .int (nI pj)), (2, .int i)] [.int (fA 3)]
            have hc_p : castF S pj 4 = 0 := by unfold castF isO; rw [hk_p] <;> decide
            have hE : s_ranked S (nI pj) i = (fA 3, (aSc (thS S) 1 3)) := by
              unfold s_ranked
              rw [if_pos h4, hpl_p, hc_p, if_neg (show ¬ 0 < 0 by decide), if_neg (show ¬ inR i (S.2.1 16 (wh S pj)) from fun z => by
                have z := (in_R (show S.2.1 16 (wh S pj) < 2 ^ 30 by omega)).mpr z
                have z1 := z.1
                have z2 := z.2
                simp only [Int32.lt_iff_toInt_lt, Int32.le_iff_toInt_le, Int32.toInt_zero] at z1 z2 h46
                omega)] <;> rfl
            exact g_iret hC hR dX9_ranked_63 ⟨b, congrArg (fun z => some (Value.int (Prod.fst z))) hE.symm, by rw [hE]; exact hx1, xG.rf⟩
          · refine g_iload_n hC dX9_ranked_49 rfl 4 rfl ?_
            refine g_aload hC dX9_ranked_50 0 rfl (Or.inr ⟨_, rfl⟩) ?_
            refine g_getN hC (by decide +kernel) rfl (hx0.T hw_p rfl hb_p).1 (hx0.T hw_p rfl hb_p).2 2 (by decide) (gKK_F ("KeptTerms", 176, "KeptTerms$Table", "termCount", "I") (by decide)) (Or.inl rfl) rfl dX9_ranked_52 ?_
            refine g_icmp_lt (x := i) (y := nI (S.2.1 16 (wh S pj))) (tgt := 64) hC dX9_ranked_55 (by decide) (fun h55 => ?_) (fun h55 => ?_)
            · have hin : 0 ≤ i ∧ i < nI (S.2.1 16 (wh S pj)) := ⟨by simp only [Int32.lt_iff_toInt_lt, Int32.le_iff_toInt_le, Int32.toInt_zero] at h46 ⊢; omega, h55⟩
              have hR_i := (in_R (show S.2.1 16 (wh S pj) < 2 ^ 30 by omega)).mp hin
              obtain ⟨ij, hij, rfl⟩ := (in_j (show S.2.1 16 (wh S pj) < 2 ^ 30 by omega)).mp hin
              have hpl_i : pl (nI ij) = ij := nI_clamp (by omega)
              refine g_aload hC dX9_ranked_64 0 rfl (Or.inr ⟨_, rfl⟩) ?_
              refine g_aload_n hC dX9_ranked_66 rfl 2 rfl (Or.inr ⟨_, rfl⟩) ?_
              refine g_get hC (by decide +kernel) rfl (hx0.M hM).1 (hx0.M hM).2 2 (by decide) (by decide +kernel) (Or.inl rfl) rfl dX9_ranked_67 ?_
              refine g_Vx (As := [.ref (b.1 9 3)]) (st := []) hC 1 dX9_ranked_70 rfl (hx0.T hw_p rfl hb_p).1 (hx0.T hw_p rfl hb_p).2 gX9_ranked_X7_rankInto rfl (by decide +kernel) ⟨Nat.le_of_ble_eq_true rfl, Nat.le_of_ble_eq_true rfl⟩ rfl (Nat.le_of_ble_eq_true rfl) ⟨(Nat.le_of_ble_eq_true rfl), (Nat.le_of_ble_eq_true rfl)⟩ (c2 := 0) (s2 := 0) rfl rfl (x_rankInto_T (S := thS S) hx0 hI0 _ _ hw_p rfl hb_p _ rfl) (fun v1 L1 f1 hp1 => ?_)
              obtain ⟨rfl, g9, hx1, hrk⟩ := hp1
              show gW X vwCl 5 L1 f1 0 0 73 [(4, .ref (b.1 6 (wh S pj))), (3, .int (nI 0)), (0, .ref M), (1, .int (nI pj)), (2, .int (nI ij))] []
              refine g_aload_n hC dX9_ranked_73 rfl 2 rfl (Or.inr ⟨_, rfl⟩) ?_
              refine g_get hC (by decide +kernel) rfl (hx1.M hM).1 (hx1.M hM).2 2 (by decide) (by decide +kernel) (Or.inl rfl) rfl dX9_ranked_74 ?_
              refine g_iload_n hC dX9_ranked_77 rfl 4 rfl ?_
              refine g_iald hC 2 rfl (hx1.Mr rfl).1 (hx1.Mr rfl).2 (ij) rfl (show ij < 100 by omega) (by decide) dX9_ranked_78 ?_
              refine g_val (w := .int (rkA S (wh S pj) ij (S.2.1 16 (wh S pj)))) (congrArg Value.int (rkA_Rk (fun j hj => hI.bl (htk.2.2.2.2.1 j hj)) hrk hij).symm) ?_
              have hc_p : castF S pj 4 = 0 := by unfold castF isO; rw [hk_p] <;> decide
              have hE : s_ranked S (nI pj) (nI ij) = (rkA S (wh S pj) ij (S.2.1 16 (wh S pj)), (thS S)) := by
                unfold s_ranked
                rw [if_pos h4, hpl_p, hc_p, if_neg (show ¬ 0 < 0 by decide), if_pos hR_i, hpl_i] <;> rfl
              exact g_iret hC hR dX9_ranked_79 ⟨(b.1, g9), congrArg (fun z => some (Value.int (Prod.fst z))) hE.symm, by rw [hE]; exact hx1, (fun _ _ _ _ _ => rfl)⟩
            · refine g_aload_n hC dX9_ranked_58 rfl 2 rfl (Or.inr ⟨_, rfl⟩) ?_
              refine g_iconst hC dX9_ranked_59 (v := nI 3) (by decide) ?_
              refine g_Vx (As := [.int (nI 3)]) (st := []) hC 1 dX9_ranked_60 rfl (hx0.M hM).1 (hx0.M hM).2 gX9_ranked_X9_failed rfl (by decide +kernel) ⟨Nat.le_of_ble_eq_true rfl, Nat.le_of_ble_eq_true rfl⟩ rfl (Nat.le_of_ble_eq_true rfl) ⟨(Nat.le_of_ble_eq_true rfl), (Nat.le_of_ble_eq_true rfl)⟩ (c2 := 0) (s2 := 0) rfl rfl (x_failed hx0 M hM 3) (fun v1 L1 f1 hp1 => ?_)
              obtain ⟨rfl, hx1⟩ := hp1
              show gW X vwCl 5 L1 f1 0 0 63 [(4, .ref (b.1 6 (wh S pj))), (3, .int (nI 0)), (0, .ref M), (1, .int (nI pj)), (2, .int i)] [.int (fA 3)]
              have hc_p : castF S pj 4 = 0 := by unfold castF isO; rw [hk_p] <;> decide
              have hE : s_ranked S (nI pj) i = (fA 3, (aSc (thS S) 1 3)) := by
                unfold s_ranked
                rw [if_pos h4, hpl_p, hc_p, if_neg (show ¬ 0 < 0 by decide), if_neg (show ¬ inR i (S.2.1 16 (wh S pj)) from fun z => by
                  have z := (in_R (show S.2.1 16 (wh S pj) < 2 ^ 30 by omega)).mpr z
                  have z1 := z.1
                  have z2 := z.2
                  simp only [Int32.lt_iff_toInt_lt, Int32.le_iff_toInt_le, Int32.toInt_zero] at z1 z2 h55
                  omega)] <;> rfl
              exact g_iret hC hR dX9_ranked_63 ⟨b, congrArg (fun z => some (Value.int (Prod.fst z))) hE.symm, by rw [hE]; exact hx1, xG.rf⟩
        · cases h36
    · have hw_p : wh S pj < S.1 13 := hI.wt hpj (by omega)
      have hb_p : S.2.1 14 (wh S pj) ≠ 0 := by have := ((hI.2.1 _ hpj).2.2.2.2.2 (by omega)).2; omega
      have hp0_p : plcF (thS S) b pj = some (b.1 6 (wh S pj)) := plc_k hpj hk_p (by decide)
      have htk := hI.tk hw_p
      have htm := htk.2.1
      have hts := htk.sl
      have htk0 := hI0.tk (show wh S pj < (thS S).1 13 from hw_p)
      refine g_aald hC 5 rfl (hx0.Mp rfl).1 (hx0.Mp rfl).2 (pj) rfl (show pj < 10 by omega) (by decide) dX9_ranked_14 ?_
      refine g_val (w := .ref (b.1 6 (wh S pj))) (congrArg va_rf hp0_p) ?_
      refine g_S (As := [.ref (b.1 6 (wh S pj))]) (st := []) hC 1 dX9_ranked_15 gX9_ranked_X9_tableFault rfl (by decide +kernel) ⟨Nat.le_of_ble_eq_true rfl, Nat.le_of_ble_eq_true rfl⟩ rfl (Nat.le_of_ble_eq_true rfl) ⟨Nat.le_of_ble_eq_true rfl, Nat.le_of_ble_eq_true rfl⟩ (c2 := 0) (s2 := 0) rfl rfl (x_tableFault (some (b.1 6 (wh S pj))) 5 (Or.inr ⟨_, 1, _, rfl, (hx0.K hw_p rfl hb_p), Or.inr (Or.inr (Or.inr (Or.inr ⟨rfl, rfl⟩)))⟩)) ?_
      refine g_istore_n (lv' := [(3, .int (nI 0)), (0, .ref M), (1, .int (nI pj)), (2, .int i)]) hC dX9_ranked_18 rfl (by decide) rfl ?_
      refine g_aload_n hC dX9_ranked_19 rfl 1 rfl (Or.inr ⟨_, rfl⟩) ?_
      refine g_get hC (by decide +kernel) rfl (hx0.M hM).1 (hx0.M hM).2 0 (by decide) (by decide +kernel) (Or.inl rfl) rfl dX9_ranked_20 ?_
      refine g_iload_n hC dX9_ranked_23 rfl 2 rfl ?_
      refine g_aald hC 5 rfl (hx0.Mp rfl).1 (hx0.Mp rfl).2 (pj) rfl (show pj < 10 by omega) (by decide) dX9_ranked_24 ?_
      refine g_val (w := .ref (b.1 6 (wh S pj))) (congrArg va_rf hp0_p) ?_
      refine g_S (As := [.ref (b.1 6 (wh S pj))]) (st := []) hC 1 dX9_ranked_25 gX9_ranked_X9_asTable rfl (by decide +kernel) ⟨Nat.le_of_ble_eq_true rfl, Nat.le_of_ble_eq_true rfl⟩ rfl (Nat.le_of_ble_eq_true rfl) ⟨Nat.le_of_ble_eq_true rfl, Nat.le_of_ble_eq_true rfl⟩ (c2 := 0) (s2 := 0) rfl rfl (x_asTable (some (b.1 6 (wh S pj))) 5 (Or.inr ⟨_, 1, _, rfl, (hx0.K hw_p rfl hb_p), Or.inr (Or.inr (Or.inr (Or.inr ⟨rfl, rfl⟩)))⟩)) ?_
      refine g_astore (lv' := [(4, .ref (b.1 6 (wh S pj))), (3, .int (nI 0)), (0, .ref M), (1, .int (nI pj)), (2, .int i)]) hC dX9_ranked_28 (by decide) rfl (Or.inr ⟨_, rfl⟩) ?_
      refine g_iload_n hC dX9_ranked_30 rfl 1 rfl ?_
      refine g_ifN_ne (a := 0) (tgt := 39) hC dX9_ranked_31 (by decide) (by omega) (fun h31 => ?_) (fun h31 => ?_)
      · exfalso; omega
      · refine g_aload hC dX9_ranked_34 0 rfl (Or.inr ⟨_, rfl⟩) ?_
        refine g_ifnonnull (o := some (b.1 6 (wh S pj))) (tgt := 45) hC dX9_ranked_36 (by decide) (fun a36 h36 => ?_) (fun h36 => ?_)
        · refine g_iload_n hC dX9_ranked_45 rfl 4 rfl ?_
          refine g_if_lt (x := i) (tgt := 58) hC dX9_ranked_46 (by decide) (fun h46 => ?_) (fun h46 => ?_)
          · refine g_aload_n hC dX9_ranked_58 rfl 2 rfl (Or.inr ⟨_, rfl⟩) ?_
            refine g_iconst hC dX9_ranked_59 (v := nI 3) (by decide) ?_
            refine g_Vx (As := [.int (nI 3)]) (st := []) hC 1 dX9_ranked_60 rfl (hx0.M hM).1 (hx0.M hM).2 gX9_ranked_X9_failed rfl (by decide +kernel) ⟨Nat.le_of_ble_eq_true rfl, Nat.le_of_ble_eq_true rfl⟩ rfl (Nat.le_of_ble_eq_true rfl) ⟨(Nat.le_of_ble_eq_true rfl), (Nat.le_of_ble_eq_true rfl)⟩ (c2 := 0) (s2 := 0) rfl rfl (x_failed hx0 M hM 3) (fun v1 L1 f1 hp1 => ?_)
            obtain ⟨rfl, hx1⟩ := hp1
            show gW X vwCl 5 L1 f1 0 0 63 [(4, .ref (b.1 6 (wh S pj))), (3, .int (nI 0)), (0, .ref M), (1, .int (nI pj)), (2, .int i)] [.int (fA 3)]
            have hc_p : castF S pj 4 = 0 := by unfold castF isO; rw [hk_p] <;> decide
            have hE : s_ranked S (nI pj) i = (fA 3, (aSc (thS S) 1 3)) := by
              unfold s_ranked
              rw [if_pos h4, hpl_p, hc_p, if_neg (show ¬ 0 < 0 by decide), if_neg (show ¬ inR i (S.2.1 16 (wh S pj)) from fun z => by
                have z := (in_R (show S.2.1 16 (wh S pj) < 2 ^ 30 by omega)).mpr z
                have z1 := z.1
                have z2 := z.2
                simp only [Int32.lt_iff_toInt_lt, Int32.le_iff_toInt_le, Int32.toInt_zero] at z1 z2 h46
                omega)] <;> rfl
            exact g_iret hC hR dX9_ranked_63 ⟨b, congrArg (fun z => some (Value.int (Prod.fst z))) hE.symm, by rw [hE]; exact hx1, xG.rf⟩
          · refine g_iload_n hC dX9_ranked_49 rfl 4 rfl ?_
            refine g_aload hC dX9_ranked_50 0 rfl (Or.inr ⟨_, rfl⟩) ?_
            refine g_getN hC (by decide +kernel) rfl (hx0.K hw_p rfl hb_p).1 (hx0.K hw_p rfl hb_p).2 2 (by decide) (gKK_F ("KeptTerms", 176, "KeptTerms$Table", "termCount", "I") (by decide)) (Or.inl rfl) rfl dX9_ranked_52 ?_
            refine g_icmp_lt (x := i) (y := nI (S.2.1 16 (wh S pj))) (tgt := 64) hC dX9_ranked_55 (by decide) (fun h55 => ?_) (fun h55 => ?_)
            · have hin : 0 ≤ i ∧ i < nI (S.2.1 16 (wh S pj)) := ⟨by simp only [Int32.lt_iff_toInt_lt, Int32.le_iff_toInt_le, Int32.toInt_zero] at h46 ⊢; omega, h55⟩
              have hR_i := (in_R (show S.2.1 16 (wh S pj) < 2 ^ 30 by omega)).mp hin
              obtain ⟨ij, hij, rfl⟩ := (in_j (show S.2.1 16 (wh S pj) < 2 ^ 30 by omega)).mp hin
              have hpl_i : pl (nI ij) = ij := nI_clamp (by omega)
              refine g_aload hC dX9_ranked_64 0 rfl (Or.inr ⟨_, rfl⟩) ?_
              refine g_aload_n hC dX9_ranked_66 rfl 2 rfl (Or.inr ⟨_, rfl⟩) ?_
              refine g_get hC (by decide +kernel) rfl (hx0.M hM).1 (hx0.M hM).2 2 (by decide) (by decide +kernel) (Or.inl rfl) rfl dX9_ranked_67 ?_
              refine g_Ux (As := [.ref (b.1 9 3)]) (st := []) hC 1 dX9_ranked_70 rfl (hx0.K hw_p rfl hb_p).1 (hx0.K hw_p rfl hb_p).2 gX9_ranked_X7_rankInto_u188X1 rfl rfl (by decide +kernel) ⟨Nat.le_of_ble_eq_true rfl, Nat.le_of_ble_eq_true rfl⟩ rfl (Nat.le_of_ble_eq_true rfl) ⟨(Nat.le_of_ble_eq_true rfl), (Nat.le_of_ble_eq_true rfl)⟩ (c2 := 0) (s2 := 0) rfl rfl (x_rankInto_K (S := thS S) hx0 hI0 _ _ hw_p rfl hb_p _ rfl) (fun v1 L1 f1 hp1 => ?_)
              obtain ⟨rfl, g9, hx1, hrk⟩ := hp1
              show gW X vwCl 5 L1 f1 0 0 73 [(4, .ref (b.1 6 (wh S pj))), (3, .int (nI 0)), (0, .ref M), (1, .int (nI pj)), (2, .int (nI ij))] []
              refine g_aload_n hC dX9_ranked_73 rfl 2 rfl (Or.inr ⟨_, rfl⟩) ?_
              refine g_get hC (by decide +kernel) rfl (hx1.M hM).1 (hx1.M hM).2 2 (by decide) (by decide +kernel) (Or.inl rfl) rfl dX9_ranked_74 ?_
              refine g_iload_n hC dX9_ranked_77 rfl 4 rfl ?_
              refine g_iald hC 2 rfl (hx1.Mr rfl).1 (hx1.Mr rfl).2 (ij) rfl (show ij < 100 by omega) (by decide) dX9_ranked_78 ?_
              refine g_val (w := .int (rkA S (wh S pj) ij (S.2.1 16 (wh S pj)))) (congrArg Value.int (rkA_Rk (fun j hj => hI.bl (htk.2.2.2.2.1 j hj)) hrk hij).symm) ?_
              have hc_p : castF S pj 4 = 0 := by unfold castF isO; rw [hk_p] <;> decide
              have hE : s_ranked S (nI pj) (nI ij) = (rkA S (wh S pj) ij (S.2.1 16 (wh S pj)), (thS S)) := by
                unfold s_ranked
                rw [if_pos h4, hpl_p, hc_p, if_neg (show ¬ 0 < 0 by decide), if_pos hR_i, hpl_i] <;> rfl
              exact g_iret hC hR dX9_ranked_79 ⟨(b.1, g9), congrArg (fun z => some (Value.int (Prod.fst z))) hE.symm, by rw [hE]; exact hx1, (fun _ _ _ _ _ => rfl)⟩
            · refine g_aload_n hC dX9_ranked_58 rfl 2 rfl (Or.inr ⟨_, rfl⟩) ?_
              refine g_iconst hC dX9_ranked_59 (v := nI 3) (by decide) ?_
              refine g_Vx (As := [.int (nI 3)]) (st := []) hC 1 dX9_ranked_60 rfl (hx0.M hM).1 (hx0.M hM).2 gX9_ranked_X9_failed rfl (by decide +kernel) ⟨Nat.le_of_ble_eq_true rfl, Nat.le_of_ble_eq_true rfl⟩ rfl (Nat.le_of_ble_eq_true rfl) ⟨(Nat.le_of_ble_eq_true rfl), (Nat.le_of_ble_eq_true rfl)⟩ (c2 := 0) (s2 := 0) rfl rfl (x_failed hx0 M hM 3) (fun v1 L1 f1 hp1 => ?_)
              obtain ⟨rfl, hx1⟩ := hp1
              show gW X vwCl 5 L1 f1 0 0 63 [(4, .ref (b.1 6 (wh S pj))), (3, .int (nI 0)), (0, .ref M), (1, .int (nI pj)), (2, .int i)] [.int (fA 3)]
              have hc_p : castF S pj 4 = 0 := by unfold castF isO; rw [hk_p] <;> decide
              have hE : s_ranked S (nI pj) i = (fA 3, (aSc (thS S) 1 3)) := by
                unfold s_ranked
                rw [if_pos h4, hpl_p, hc_p, if_neg (show ¬ 0 < 0 by decide), if_neg (show ¬ inR i (S.2.1 16 (wh S pj)) from fun z => by
                  have z := (in_R (show S.2.1 16 (wh S pj) < 2 ^ 30 by omega)).mpr z
                  have z1 := z.1
                  have z2 := z.2
                  simp only [Int32.lt_iff_toInt_lt, Int32.le_iff_toInt_le, Int32.toInt_zero] at z1 z2 h55
                  omega)] <;> rfl
              exact g_iret hC hR dX9_ranked_63 ⟨b, congrArg (fun z => some (Value.int (Prod.fst z))) hE.symm, by rw [hE]; exact hx1, xG.rf⟩
        · cases h36
  · refine g_iconst hC dX9_ranked_7 (v := (-1)) (by decide) ?_
    have hE : s_ranked S p i = ((-1), (thS S)) := by
      unfold s_ranked
      rw [if_neg h4] <;> rfl
    exact g_iret hC hR dX9_ranked_8 ⟨b, congrArg (fun z => some (Value.int (Prod.fst z))) hE.symm, by rw [hE]; exact hx0, xG.rf⟩
set_option maxRecDepth 20000 in
set_option maxHeartbeats 4000000 in
theorem y_twin {S : aS} {b : xB} (hx : xR cy S b L f) (hI : aI S) (M : Nat) (hM : b.1 9 0 = M) (p q : Int32) : gCt l D vwCl (gKK D cy adK adV) yX9_twin wsX9_twin { frames := 7, cells := 3, slots := 33, locals := 141 } [.ref M, .int p, .int q] L f (xP cy S b (s_twin S p q).2 (fun _ => some (.int (s_twin S p q).1))) := by
  refine gCt.of gKK_ok (by decide) rfl rfl (fun X hC hR hnm => ?_)
  have hC : gC X l _ D vwCl (cyT cy) (gKK D cy adK adV) cX9_twin 4 wsX9_twin RX9 := hC
  have hx0 := hx.th0
  have hI0 := hI.th
  show gW X vwCl 4 L f 0 0 0 [(0, .ref M), (1, .int p), (2, .int q)] []
  refine g_iload_n hC dX9_twin_0 rfl 1 rfl ?_
  refine g_S (As := [.int p]) (st := []) hC 1 dX9_twin_1 gX9_twin_X9_isPlace rfl (by decide +kernel) ⟨Nat.le_of_ble_eq_true rfl, Nat.le_of_ble_eq_true rfl⟩ rfl (Nat.le_of_ble_eq_true rfl) ⟨Nat.le_of_ble_eq_true rfl, Nat.le_of_ble_eq_true rfl⟩ (c2 := 0) (s2 := 0) rfl rfl (x_isPlace _) ?_
  refine g_ifB_eq (P := isP p) (tgt := 14) hC dX9_twin_4 (by decide) (fun h4 => ?_) (fun h4 => ?_)
  · refine g_iconst hC dX9_twin_14 (v := (-1)) (by decide) ?_
    have hE : s_twin S p q = ((-1), (thS S)) := by
      unfold s_twin
      rw [if_neg h4] <;> rfl
    refine g_widen (c2 := 3) (s2 := 33) (Nat.le_of_ble_eq_true rfl) (Nat.le_of_ble_eq_true rfl) ?_
    exact g_iret hC hR dX9_twin_15 ⟨b, congrArg (fun z => some (Value.int (Prod.fst z))) hE.symm, by rw [hE]; exact hx0, xG.rf⟩
  · obtain ⟨pj, hpj, rfl⟩ := isP_j h4
    have hpl_p : pl (nI pj) = pj := nI_clamp (by omega)
    refine g_iload_n hC dX9_twin_7 rfl 2 rfl ?_
    refine g_S (As := [.int q]) (st := []) hC 1 dX9_twin_8 gX9_twin_X9_isPlace rfl (by decide +kernel) ⟨Nat.le_of_ble_eq_true rfl, Nat.le_of_ble_eq_true rfl⟩ rfl (Nat.le_of_ble_eq_true rfl) ⟨Nat.le_of_ble_eq_true rfl, Nat.le_of_ble_eq_true rfl⟩ (c2 := 0) (s2 := 0) rfl rfl (x_isPlace _) ?_
    refine g_ifB_ne (P := isP q) (tgt := 16) hC dX9_twin_11 (by decide) (fun h11 => ?_) (fun h11 => ?_)
    · obtain ⟨qj, hqj, rfl⟩ := isP_j h11
      have hpl_q : pl (nI qj) = qj := nI_clamp (by omega)
      refine g_aload_n hC dX9_twin_16 rfl 0 rfl (Or.inr ⟨_, rfl⟩) ?_
      refine g_get hC (by decide +kernel) rfl (hx0.M hM).1 (hx0.M hM).2 0 (by decide) (by decide +kernel) (Or.inl rfl) rfl dX9_twin_17 ?_
      refine g_iload_n hC dX9_twin_20 rfl 2 rfl ?_
      have h5_q := hI.k5 hqj
      rcases (show kd S qj = 0 ∨ kd S qj = 1 ∨ kd S qj = 2 ∨ kd S qj = 3 ∨ kd S qj = 4 ∨ kd S qj = 5 by omega) with hk_q | hk_q | hk_q | hk_q | hk_q | hk_q
      · have hp0_q : plcF (thS S) b qj = none := plc_0 hqj hk_q
        refine g_aald hC 5 rfl (hx0.Mp rfl).1 (hx0.Mp rfl).2 (qj) rfl (show qj < 10 by omega) (by decide) dX9_twin_21 ?_
        refine g_val (w := .null) (congrArg va_rf hp0_q) ?_
        refine g_ifnonnull (o := none) (tgt := 31) hC dX9_twin_22 (by decide) (fun a22 h22 => ?_) (fun h22 => ?_)
        · cases h22
        · refine g_aload_n hC dX9_twin_25 rfl 0 rfl (Or.inr ⟨_, rfl⟩) ?_
          refine g_iconst hC dX9_twin_26 (v := nI 1) (by decide) ?_
          refine g_Vx (As := [.int (nI 1)]) (st := []) hC 1 dX9_twin_27 rfl (hx0.M hM).1 (hx0.M hM).2 gX9_twin_X9_failed rfl (by decide +kernel) ⟨Nat.le_of_ble_eq_true rfl, Nat.le_of_ble_eq_true rfl⟩ rfl (Nat.le_of_ble_eq_true rfl) ⟨(Nat.le_of_ble_eq_true rfl), (Nat.le_of_ble_eq_true rfl)⟩ (c2 := 0) (s2 := 0) rfl rfl (x_failed hx0 M hM 1) (fun v1 L1 f1 hp1 => ?_)
          obtain ⟨rfl, hx1⟩ := hp1
          show gW X vwCl 4 L1 f1 0 0 30 [(0, .ref M), (1, .int (nI pj)), (2, .int (nI qj))] [.int (fA 1)]
          have hE : s_twin S (nI pj) (nI qj) = (fA 1, (aSc (thS S) 1 1)) := by
            unfold s_twin
            rw [if_pos h4, if_pos h11, hpl_q, if_pos hk_q] <;> rfl
          refine g_widen (c2 := 3) (s2 := 33) (Nat.le_of_ble_eq_true rfl) (Nat.le_of_ble_eq_true rfl) ?_
          exact g_iret hC hR dX9_twin_30 ⟨b, congrArg (fun z => some (Value.int (Prod.fst z))) hE.symm, by rw [hE]; exact hx1, xG.rf⟩
      · have hw_q : wh S qj < S.1 4 := hI.wl hqj hk_q
        have hp0_q : plcF (thS S) b qj = some (b.1 0 (wh S qj)) := plc_k hqj hk_q (by decide)
        refine g_aald hC 5 rfl (hx0.Mp rfl).1 (hx0.Mp rfl).2 (qj) rfl (show qj < 10 by omega) (by decide) dX9_twin_21 ?_
        refine g_val (w := .ref (b.1 0 (wh S qj))) (congrArg va_rf hp0_q) ?_
        refine g_ifnonnull (o := some (b.1 0 (wh S qj))) (tgt := 31) hC dX9_twin_22 (by decide) (fun a22 h22 => ?_) (fun h22 => ?_)
        · refine g_aload_n hC dX9_twin_31 rfl 0 rfl (Or.inr ⟨_, rfl⟩) ?_
          refine g_get hC (by decide +kernel) rfl (hx0.M hM).1 (hx0.M hM).2 0 (by decide) (by decide +kernel) (Or.inl rfl) rfl dX9_twin_32 ?_
          refine g_iload_n hC dX9_twin_35 rfl 2 rfl ?_
          refine g_aald hC 5 rfl (hx0.Mp rfl).1 (hx0.Mp rfl).2 (qj) rfl (show qj < 10 by omega) (by decide) dX9_twin_36 ?_
          refine g_val (w := .ref (b.1 0 (wh S qj))) (congrArg va_rf hp0_q) ?_
          refine g_S (As := [.ref (b.1 0 (wh S qj))]) (st := []) hC 1 dX9_twin_37 gX9_twin_X9_asRow rfl (by decide +kernel) ⟨Nat.le_of_ble_eq_true rfl, Nat.le_of_ble_eq_true rfl⟩ rfl (Nat.le_of_ble_eq_true rfl) ⟨Nat.le_of_ble_eq_true rfl, Nat.le_of_ble_eq_true rfl⟩ (c2 := 0) (s2 := 0) rfl rfl (x_asRow (some (b.1 0 (wh S qj))) 1 (Or.inr ⟨_, 0, _, rfl, (hx0.B hw_q rfl), Or.inl ⟨rfl, rfl⟩⟩)) ?_
          refine g_astore_n (lv' := [(3, .ref (b.1 0 (wh S qj))), (0, .ref M), (1, .int (nI pj)), (2, .int (nI qj))]) hC dX9_twin_40 rfl (by decide) rfl (Or.inr ⟨_, rfl⟩) ?_
          refine g_aload_n hC dX9_twin_41 rfl 0 rfl (Or.inr ⟨_, rfl⟩) ?_
          refine g_ifnonnull (o := some (b.1 0 (wh S qj))) (tgt := 51) hC dX9_twin_42 (by decide) (fun a42 h42 => ?_) (fun h42 => ?_)
          · refine g_aload_n hC dX9_twin_51 rfl 1 rfl (Or.inr ⟨_, rfl⟩) ?_
            refine g_get hC (by decide +kernel) rfl (hx0.M hM).1 (hx0.M hM).2 0 (by decide) (by decide +kernel) (Or.inl rfl) rfl dX9_twin_52 ?_
            refine g_iload_n hC dX9_twin_55 rfl 2 rfl ?_
            refine g_aload_n hC dX9_twin_56 rfl 0 rfl (Or.inr ⟨_, rfl⟩) ?_
            refine g_Ax (As := []) (st := [.int (nI pj), .ref (b.1 9 1)]) hC 0 dX9_twin_57 rfl (hx0.B hw_q rfl).1 (hx0.B hw_q rfl).2 gX9_twin_X0_newTwin__u136X0 rfl (gKK_D ⟨"KeptTerms$Row", "newTwin", "()LKeptTerms$Row;"⟩ (by decide)) (by decide +kernel) ⟨Nat.le_of_ble_eq_true rfl, Nat.le_of_ble_eq_true rfl⟩ rfl (Nat.le_of_ble_eq_true rfl) ⟨(Nat.le_of_ble_eq_true rfl), (Nat.le_of_ble_eq_true rfl)⟩ (c2 := 2) (s2 := 17) rfl rfl (x_newTwin__B (S := thS S) hx0 hI0 _ _ hw_q rfl) (fun v1 L1 f1 hp1 => ?_)
            obtain ⟨b1, rfl, hx1, hg1⟩ := hp1
            show gW X vwCl 4 L1 f1 2 17 60 [(3, .ref (b.1 0 (wh S qj))), (0, .ref M), (1, .int (nI pj)), (2, .int (nI qj))] [.ref (b1.1 0 (S.1 4)), .int (nI pj), .ref (b.1 9 1)]
            refine g_aastO hC 5 rfl (r := (RX0, TX0, 1)) (gKK_C "KeptTerms$Bytes" "KeptTerms$Thing" (by decide)) rfl (hx1.B (show S.1 4 < S.1 4 + 1 by omega) rfl).1 (hx1.B (show S.1 4 < S.1 4 + 1 by omega) rfl).2 (hx1.Mp ((hg1 9 1 (by decide) (by decide) (show 1 < 4 by decide)).trans rfl)).1 (hx1.Mp ((hg1 9 1 (by decide) (by decide) (show 1 < 4 by decide)).trans rfl)).2 (pj) rfl (show pj < 10 by omega) (by decide) dX9_twin_60 ?_
            refine g_fx (P := xR cy ((aN (aN (twinB (thS S) (wh S qj)) 2 pj 1) 3 pj (S.1 4))) b1) (hx1.hold (x := 1) (r := S.1 4) hpj (by decide) ((hg1 9 1 (by decide) (by decide) (show 1 < 4 by decide)).trans rfl)) (fun f2 hx2 => ?_)
            show gW X vwCl 4 L1 f2 2 17 61 [(3, .ref (b.1 0 (wh S qj))), (0, .ref M), (1, .int (nI pj)), (2, .int (nI qj))] []
            refine g_aload_n hC dX9_twin_61 rfl 0 rfl (Or.inr ⟨_, rfl⟩) ?_
            have hlq := hI.bl hw_q
            have hle : ((aN (aN (twinB (thS S) (wh S qj)) 2 pj 1) 3 pj (S.1 4))).2.1 5 (wh S qj) = S.2.1 5 (wh S qj) := va_up_ne _ _ (show wh S qj ≠ S.1 4 by omega)
            refine g_A (As := []) (st := []) hC 0 dX9_twin_62 rfl (hx2.B (Nat.lt_succ_of_lt hw_q) ((hg1 0 (wh S qj) (by decide) (by decide) hw_q).trans rfl)).1 (hx2.B (Nat.lt_succ_of_lt hw_q) ((hg1 0 (wh S qj) (by decide) (by decide) hw_q).trans rfl)).2 gX9_twin_X0_cellCount_u72X0 rfl (gKK_D ⟨"KeptTerms$Row", "cellCount", "()I"⟩ (by decide)) (by decide +kernel) ⟨Nat.le_of_ble_eq_true rfl, Nat.le_of_ble_eq_true rfl⟩ rfl (Nat.le_of_ble_eq_true rfl) ⟨Nat.le_of_ble_eq_true rfl, Nat.le_of_ble_eq_true rfl⟩ (c2 := 2) (s2 := 17) rfl rfl (x_0_cellCount _ _ _ _ (hx2.isB (Nat.lt_succ_of_lt hw_q) ((hg1 0 (wh S qj) (by decide) (by decide) hw_q).trans rfl) (by rw [hle]; exact hlq))) ?_
            refine g_val (w := .int (nI (S.2.1 5 (wh S qj)))) (congrArg (fun z => Value.int (nI z)) hle) ?_
            have hlg_q : longS S qj = S.2.1 5 (wh S qj) := by unfold longS; rw [hk_q] <;> rfl
            have hE : s_twin S (nI pj) (nI qj) = (nI (S.2.1 5 (wh S qj)), (aN (aN (twinB (thS S) (wh S qj)) 2 pj 1) 3 pj (S.1 4))) := by
              unfold s_twin
              rw [if_pos h4, if_pos h11, hpl_q, if_neg (show ¬ kd S qj = 0 by omega), if_neg (show ¬ 3 < kd S qj by omega), if_pos hk_q, hlg_q, hpl_p] <;> rfl
            refine g_widen (c2 := 3) (s2 := 33) (Nat.le_of_ble_eq_true rfl) (Nat.le_of_ble_eq_true rfl) ?_
            exact g_iret hC hR dX9_twin_65 ⟨b1, congrArg (fun z => some (Value.int (Prod.fst z))) hE.symm, by rw [hE]; exact hx2, hg1⟩
          · cases h42
        · cases h22
      · have hw_q : wh S qj < S.1 7 := hI.ws hqj hk_q
        have hp0_q : plcF (thS S) b qj = some (b.1 2 (wh S qj)) := plc_k hqj hk_q (by decide)
        refine g_aald hC 5 rfl (hx0.Mp rfl).1 (hx0.Mp rfl).2 (qj) rfl (show qj < 10 by omega) (by decide) dX9_twin_21 ?_
        refine g_val (w := .ref (b.1 2 (wh S qj))) (congrArg va_rf hp0_q) ?_
        refine g_ifnonnull (o := some (b.1 2 (wh S qj))) (tgt := 31) hC dX9_twin_22 (by decide) (fun a22 h22 => ?_) (fun h22 => ?_)
        · refine g_aload_n hC dX9_twin_31 rfl 0 rfl (Or.inr ⟨_, rfl⟩) ?_
          refine g_get hC (by decide +kernel) rfl (hx0.M hM).1 (hx0.M hM).2 0 (by decide) (by decide +kernel) (Or.inl rfl) rfl dX9_twin_32 ?_
          refine g_iload_n hC dX9_twin_35 rfl 2 rfl ?_
          refine g_aald hC 5 rfl (hx0.Mp rfl).1 (hx0.Mp rfl).2 (qj) rfl (show qj < 10 by omega) (by decide) dX9_twin_36 ?_
          refine g_val (w := .ref (b.1 2 (wh S qj))) (congrArg va_rf hp0_q) ?_
          refine g_S (As := [.ref (b.1 2 (wh S qj))]) (st := []) hC 1 dX9_twin_37 gX9_twin_X9_asRow rfl (by decide +kernel) ⟨Nat.le_of_ble_eq_true rfl, Nat.le_of_ble_eq_true rfl⟩ rfl (Nat.le_of_ble_eq_true rfl) ⟨Nat.le_of_ble_eq_true rfl, Nat.le_of_ble_eq_true rfl⟩ (c2 := 0) (s2 := 0) rfl rfl (x_asRow (some (b.1 2 (wh S qj))) 2 (Or.inr ⟨_, 4, _, rfl, (hx0.G hw_q rfl), Or.inr (Or.inl ⟨rfl, rfl⟩)⟩)) ?_
          refine g_astore_n (lv' := [(3, .ref (b.1 2 (wh S qj))), (0, .ref M), (1, .int (nI pj)), (2, .int (nI qj))]) hC dX9_twin_40 rfl (by decide) rfl (Or.inr ⟨_, rfl⟩) ?_
          refine g_aload_n hC dX9_twin_41 rfl 0 rfl (Or.inr ⟨_, rfl⟩) ?_
          refine g_ifnonnull (o := some (b.1 2 (wh S qj))) (tgt := 51) hC dX9_twin_42 (by decide) (fun a42 h42 => ?_) (fun h42 => ?_)
          · refine g_aload_n hC dX9_twin_51 rfl 1 rfl (Or.inr ⟨_, rfl⟩) ?_
            refine g_get hC (by decide +kernel) rfl (hx0.M hM).1 (hx0.M hM).2 0 (by decide) (by decide +kernel) (Or.inl rfl) rfl dX9_twin_52 ?_
            refine g_iload_n hC dX9_twin_55 rfl 2 rfl ?_
            refine g_aload_n hC dX9_twin_56 rfl 0 rfl (Or.inr ⟨_, rfl⟩) ?_
            refine g_Ax (As := []) (st := [.int (nI pj), .ref (b.1 9 1)]) hC 0 dX9_twin_57 rfl (hx0.G hw_q rfl).1 (hx0.G hw_q rfl).2 gX9_twin_X6_newTwin__u136X6 rfl (gKK_D ⟨"KeptTerms$Row", "newTwin", "()LKeptTerms$Row;"⟩ (by decide)) (by decide +kernel) ⟨Nat.le_of_ble_eq_true rfl, Nat.le_of_ble_eq_true rfl⟩ rfl (Nat.le_of_ble_eq_true rfl) ⟨(Nat.le_of_ble_eq_true rfl), (Nat.le_of_ble_eq_true rfl)⟩ (c2 := 2) (s2 := 17) rfl rfl (x_newTwin__S (S := thS S) hx0 hI0 _ _ hw_q rfl) (fun v1 L1 f1 hp1 => ?_)
            obtain ⟨b1, rfl, hx1, hg1⟩ := hp1
            show gW X vwCl 4 L1 f1 2 17 60 [(3, .ref (b.1 2 (wh S qj))), (0, .ref M), (1, .int (nI pj)), (2, .int (nI qj))] [.ref (b1.1 2 (S.1 7)), .int (nI pj), .ref (b.1 9 1)]
            refine g_aastO hC 5 rfl (r := (RX6, TX6, 1)) (gKK_C "KeptTerms$Signs" "KeptTerms$Thing" (by decide)) rfl (hx1.G (show S.1 7 < S.1 7 + 1 by omega) rfl).1 (hx1.G (show S.1 7 < S.1 7 + 1 by omega) rfl).2 (hx1.Mp ((hg1 9 1 (by decide) (by decide) (show 1 < 4 by decide)).trans rfl)).1 (hx1.Mp ((hg1 9 1 (by decide) (by decide) (show 1 < 4 by decide)).trans rfl)).2 (pj) rfl (show pj < 10 by omega) (by decide) dX9_twin_60 ?_
            refine g_fx (P := xR cy ((aN (aN (aSc (newSg (thS S) (S.2.1 8 (wh S qj)) (fun k => S.2.2 9 (16 * wh S qj + k))) 7 (S.1 7 + 1)) 2 pj 2) 3 pj (S.1 7))) b1) (hx1.hold (x := 2) (r := S.1 7) hpj (by decide) ((hg1 9 1 (by decide) (by decide) (show 1 < 4 by decide)).trans rfl)) (fun f2 hx2 => ?_)
            show gW X vwCl 4 L1 f2 2 17 61 [(3, .ref (b.1 2 (wh S qj))), (0, .ref M), (1, .int (nI pj)), (2, .int (nI qj))] []
            refine g_aload_n hC dX9_twin_61 rfl 0 rfl (Or.inr ⟨_, rfl⟩) ?_
            have hlq := hI.2.2.2.1 _ hw_q
            have hle : ((aN (aN (aSc (newSg (thS S) (S.2.1 8 (wh S qj)) (fun k => S.2.2 9 (16 * wh S qj + k))) 7 (S.1 7 + 1)) 2 pj 2) 3 pj (S.1 7))).2.1 8 (wh S qj) = S.2.1 8 (wh S qj) := va_up_ne _ _ (show wh S qj ≠ S.1 7 by omega)
            refine g_A (As := []) (st := []) hC 0 dX9_twin_62 rfl (hx2.G (Nat.lt_succ_of_lt hw_q) ((hg1 2 (wh S qj) (by decide) (by decide) hw_q).trans rfl)).1 (hx2.G (Nat.lt_succ_of_lt hw_q) ((hg1 2 (wh S qj) (by decide) (by decide) hw_q).trans rfl)).2 gX9_twin_X6_cellCount_u72X6 rfl (gKK_D ⟨"KeptTerms$Row", "cellCount", "()I"⟩ (by decide)) (by decide +kernel) ⟨Nat.le_of_ble_eq_true rfl, Nat.le_of_ble_eq_true rfl⟩ rfl (Nat.le_of_ble_eq_true rfl) ⟨Nat.le_of_ble_eq_true rfl, Nat.le_of_ble_eq_true rfl⟩ (c2 := 2) (s2 := 17) rfl rfl (x_6_cellCount _ _ _ _ (hx2.isS (Nat.lt_succ_of_lt hw_q) ((hg1 2 (wh S qj) (by decide) (by decide) hw_q).trans rfl) (by rw [hle]; exact hlq))) ?_
            refine g_val (w := .int (nI (S.2.1 8 (wh S qj)))) (congrArg (fun z => Value.int (nI z)) hle) ?_
            have hlg_q : longS S qj = S.2.1 8 (wh S qj) := by unfold longS; rw [hk_q] <;> rfl
            have hE : s_twin S (nI pj) (nI qj) = (nI (S.2.1 8 (wh S qj)), (aN (aN (aSc (newSg (thS S) (S.2.1 8 (wh S qj)) (fun k => S.2.2 9 (16 * wh S qj + k))) 7 (S.1 7 + 1)) 2 pj 2) 3 pj (S.1 7))) := by
              unfold s_twin
              rw [if_pos h4, if_pos h11, hpl_q, if_neg (show ¬ kd S qj = 0 by omega), if_neg (show ¬ 3 < kd S qj by omega), if_neg (show ¬ kd S qj = 1 by omega), if_pos hk_q, hlg_q, hpl_p] <;> rfl
            refine g_widen (c2 := 3) (s2 := 33) (Nat.le_of_ble_eq_true rfl) (Nat.le_of_ble_eq_true rfl) ?_
            exact g_iret hC hR dX9_twin_65 ⟨b1, congrArg (fun z => some (Value.int (Prod.fst z))) hE.symm, by rw [hE]; exact hx2, hg1⟩
          · cases h42
        · cases h22
      · have hw_q : wh S qj < S.1 10 := hI.wr hqj hk_q
        have hp0_q : plcF (thS S) b qj = some (b.1 4 (wh S qj)) := plc_k hqj hk_q (by decide)
        refine g_aald hC 5 rfl (hx0.Mp rfl).1 (hx0.Mp rfl).2 (qj) rfl (show qj < 10 by omega) (by decide) dX9_twin_21 ?_
        refine g_val (w := .ref (b.1 4 (wh S qj))) (congrArg va_rf hp0_q) ?_
        refine g_ifnonnull (o := some (b.1 4 (wh S qj))) (tgt := 31) hC dX9_twin_22 (by decide) (fun a22 h22 => ?_) (fun h22 => ?_)
        · refine g_aload_n hC dX9_twin_31 rfl 0 rfl (Or.inr ⟨_, rfl⟩) ?_
          refine g_get hC (by decide +kernel) rfl (hx0.M hM).1 (hx0.M hM).2 0 (by decide) (by decide +kernel) (Or.inl rfl) rfl dX9_twin_32 ?_
          refine g_iload_n hC dX9_twin_35 rfl 2 rfl ?_
          refine g_aald hC 5 rfl (hx0.Mp rfl).1 (hx0.Mp rfl).2 (qj) rfl (show qj < 10 by omega) (by decide) dX9_twin_36 ?_
          refine g_val (w := .ref (b.1 4 (wh S qj))) (congrArg va_rf hp0_q) ?_
          refine g_S (As := [.ref (b.1 4 (wh S qj))]) (st := []) hC 1 dX9_twin_37 gX9_twin_X9_asRow rfl (by decide +kernel) ⟨Nat.le_of_ble_eq_true rfl, Nat.le_of_ble_eq_true rfl⟩ rfl (Nat.le_of_ble_eq_true rfl) ⟨Nat.le_of_ble_eq_true rfl, Nat.le_of_ble_eq_true rfl⟩ (c2 := 0) (s2 := 0) rfl rfl (x_asRow (some (b.1 4 (wh S qj))) 3 (Or.inr ⟨_, 3, _, rfl, (hx0.W hw_q rfl), Or.inr (Or.inr (Or.inl ⟨rfl, rfl⟩))⟩)) ?_
          refine g_astore_n (lv' := [(3, .ref (b.1 4 (wh S qj))), (0, .ref M), (1, .int (nI pj)), (2, .int (nI qj))]) hC dX9_twin_40 rfl (by decide) rfl (Or.inr ⟨_, rfl⟩) ?_
          refine g_aload_n hC dX9_twin_41 rfl 0 rfl (Or.inr ⟨_, rfl⟩) ?_
          refine g_ifnonnull (o := some (b.1 4 (wh S qj))) (tgt := 51) hC dX9_twin_42 (by decide) (fun a42 h42 => ?_) (fun h42 => ?_)
          · refine g_aload_n hC dX9_twin_51 rfl 1 rfl (Or.inr ⟨_, rfl⟩) ?_
            refine g_get hC (by decide +kernel) rfl (hx0.M hM).1 (hx0.M hM).2 0 (by decide) (by decide +kernel) (Or.inl rfl) rfl dX9_twin_52 ?_
            refine g_iload_n hC dX9_twin_55 rfl 2 rfl ?_
            refine g_aload_n hC dX9_twin_56 rfl 0 rfl (Or.inr ⟨_, rfl⟩) ?_
            refine g_Ax (As := []) (st := [.int (nI pj), .ref (b.1 9 1)]) hC 0 dX9_twin_57 rfl (hx0.W hw_q rfl).1 (hx0.W hw_q rfl).2 gX9_twin_X5_newTwin__u136X5 rfl (gKK_D ⟨"KeptTerms$Row", "newTwin", "()LKeptTerms$Row;"⟩ (by decide)) (by decide +kernel) ⟨Nat.le_of_ble_eq_true rfl, Nat.le_of_ble_eq_true rfl⟩ rfl (Nat.le_of_ble_eq_true rfl) ⟨(Nat.le_of_ble_eq_true rfl), (Nat.le_of_ble_eq_true rfl)⟩ (c2 := 3) (s2 := 33) rfl rfl (x_newTwin__R (S := thS S) hx0 hI0 _ _ hw_q rfl) (fun v1 L1 f1 hp1 => ?_)
            obtain ⟨b1, rfl, hx1, hg1⟩ := hp1
            show gW X vwCl 4 L1 f1 3 33 60 [(3, .ref (b.1 4 (wh S qj))), (0, .ref M), (1, .int (nI pj)), (2, .int (nI qj))] [.ref (b1.1 4 (S.1 10)), .int (nI pj), .ref (b.1 9 1)]
            refine g_aastO hC 5 rfl (r := (RX5, TX5, 1)) (gKK_C "KeptTerms$Rows" "KeptTerms$Thing" (by decide)) rfl (hx1.W (show S.1 10 < S.1 10 + 1 by omega) rfl).1 (hx1.W (show S.1 10 < S.1 10 + 1 by omega) rfl).2 (hx1.Mp ((hg1 9 1 (by decide) (by decide) (show 1 < 4 by decide)).trans rfl)).1 (hx1.Mp ((hg1 9 1 (by decide) (by decide) (show 1 < 4 by decide)).trans rfl)).2 (pj) rfl (show pj < 10 by omega) (by decide) dX9_twin_60 ?_
            refine g_fx (P := xR cy ((aN (aN (aSc (newRw (thS S) (S.2.1 11 (wh S qj)) (fun k => S.2.1 12 (16 * wh S qj + k))) 10 (S.1 10 + 1)) 2 pj 3) 3 pj (S.1 10))) b1) (hx1.hold (x := 3) (r := S.1 10) hpj (by decide) ((hg1 9 1 (by decide) (by decide) (show 1 < 4 by decide)).trans rfl)) (fun f2 hx2 => ?_)
            show gW X vwCl 4 L1 f2 3 33 61 [(3, .ref (b.1 4 (wh S qj))), (0, .ref M), (1, .int (nI pj)), (2, .int (nI qj))] []
            refine g_aload_n hC dX9_twin_61 rfl 0 rfl (Or.inr ⟨_, rfl⟩) ?_
            have hlq := hI.2.2.2.2.1 _ hw_q
            have hle : ((aN (aN (aSc (newRw (thS S) (S.2.1 11 (wh S qj)) (fun k => S.2.1 12 (16 * wh S qj + k))) 10 (S.1 10 + 1)) 2 pj 3) 3 pj (S.1 10))).2.1 11 (wh S qj) = S.2.1 11 (wh S qj) := va_up_ne _ _ (show wh S qj ≠ S.1 10 by omega)
            refine g_A (As := []) (st := []) hC 0 dX9_twin_62 rfl (hx2.W (Nat.lt_succ_of_lt hw_q) ((hg1 4 (wh S qj) (by decide) (by decide) hw_q).trans rfl)).1 (hx2.W (Nat.lt_succ_of_lt hw_q) ((hg1 4 (wh S qj) (by decide) (by decide) hw_q).trans rfl)).2 gX9_twin_X5_cellCount_u72X5 rfl (gKK_D ⟨"KeptTerms$Row", "cellCount", "()I"⟩ (by decide)) (by decide +kernel) ⟨Nat.le_of_ble_eq_true rfl, Nat.le_of_ble_eq_true rfl⟩ rfl (Nat.le_of_ble_eq_true rfl) ⟨Nat.le_of_ble_eq_true rfl, Nat.le_of_ble_eq_true rfl⟩ (c2 := 3) (s2 := 33) rfl rfl (x_5_cellCount _ _ _ _ (isR.B hx2 (Nat.lt_succ_of_lt hw_q) ((hg1 4 (wh S qj) (by decide) (by decide) hw_q).trans rfl) (by rw [hle]; exact hlq))) ?_
            refine g_val (w := .int (nI (S.2.1 11 (wh S qj)))) (congrArg (fun z => Value.int (nI z)) hle) ?_
            have hlg_q : longS S qj = S.2.1 11 (wh S qj) := by unfold longS; rw [hk_q] <;> rfl
            have hE : s_twin S (nI pj) (nI qj) = (nI (S.2.1 11 (wh S qj)), (aN (aN (aSc (newRw (thS S) (S.2.1 11 (wh S qj)) (fun k => S.2.1 12 (16 * wh S qj + k))) 10 (S.1 10 + 1)) 2 pj 3) 3 pj (S.1 10))) := by
              unfold s_twin
              rw [if_pos h4, if_pos h11, hpl_q, if_neg (show ¬ kd S qj = 0 by omega), if_neg (show ¬ 3 < kd S qj by omega), if_neg (show ¬ kd S qj = 1 by omega), if_neg (show ¬ kd S qj = 2 by omega), hlg_q, hpl_p] <;> rfl
            exact g_iret hC hR dX9_twin_65 ⟨b1, congrArg (fun z => some (Value.int (Prod.fst z))) hE.symm, by rw [hE]; exact hx2, hg1⟩
          · cases h42
        · cases h22
      · have hw_q : wh S qj < S.1 13 := hI.wt hqj (by omega)
        have hb_q : S.2.1 14 (wh S qj) = 0 := by have := ((hI.2.1 _ hqj).2.2.2.2.2 (by omega)).2; omega
        have hp0_q : plcF (thS S) b qj = some (b.1 6 (wh S qj)) := plc_k hqj hk_q (by decide)
        refine g_aald hC 5 rfl (hx0.Mp rfl).1 (hx0.Mp rfl).2 (qj) rfl (show qj < 10 by omega) (by decide) dX9_twin_21 ?_
        refine g_val (w := .ref (b.1 6 (wh S qj))) (congrArg va_rf hp0_q) ?_
        refine g_ifnonnull (o := some (b.1 6 (wh S qj))) (tgt := 31) hC dX9_twin_22 (by decide) (fun a22 h22 => ?_) (fun h22 => ?_)
        · refine g_aload_n hC dX9_twin_31 rfl 0 rfl (Or.inr ⟨_, rfl⟩) ?_
          refine g_get hC (by decide +kernel) rfl (hx0.M hM).1 (hx0.M hM).2 0 (by decide) (by decide +kernel) (Or.inl rfl) rfl dX9_twin_32 ?_
          refine g_iload_n hC dX9_twin_35 rfl 2 rfl ?_
          refine g_aald hC 5 rfl (hx0.Mp rfl).1 (hx0.Mp rfl).2 (qj) rfl (show qj < 10 by omega) (by decide) dX9_twin_36 ?_
          refine g_val (w := .ref (b.1 6 (wh S qj))) (congrArg va_rf hp0_q) ?_
          refine g_S (As := [.ref (b.1 6 (wh S qj))]) (st := []) hC 1 dX9_twin_37 gX9_twin_X9_asRow rfl (by decide +kernel) ⟨Nat.le_of_ble_eq_true rfl, Nat.le_of_ble_eq_true rfl⟩ rfl (Nat.le_of_ble_eq_true rfl) ⟨Nat.le_of_ble_eq_true rfl, Nat.le_of_ble_eq_true rfl⟩ (c2 := 0) (s2 := 0) rfl rfl (x_asRow (some (b.1 6 (wh S qj))) 4 (Or.inr ⟨_, 5, _, rfl, (hx0.T hw_q rfl hb_q), Or.inr (Or.inr (Or.inr (Or.inl ⟨rfl, rfl⟩)))⟩)) ?_
          refine g_astore_n (lv' := [(3, .null), (0, .ref M), (1, .int (nI pj)), (2, .int (nI qj))]) hC dX9_twin_40 rfl (by decide) rfl (Or.inl rfl) ?_
          refine g_aload_n hC dX9_twin_41 rfl 0 rfl (Or.inl rfl) ?_
          refine g_ifnonnull (o := none) (tgt := 51) hC dX9_twin_42 (by decide) (fun a42 h42 => ?_) (fun h42 => ?_)
          · cases h42
          · refine g_aload_n hC dX9_twin_45 rfl 1 rfl (Or.inr ⟨_, rfl⟩) ?_
            refine g_iconst hC dX9_twin_46 (v := nI 2) (by decide) ?_
            refine g_Vx (As := [.int (nI 2)]) (st := []) hC 1 dX9_twin_47 rfl (hx0.M hM).1 (hx0.M hM).2 gX9_twin_X9_failed rfl (by decide +kernel) ⟨Nat.le_of_ble_eq_true rfl, Nat.le_of_ble_eq_true rfl⟩ rfl (Nat.le_of_ble_eq_true rfl) ⟨(Nat.le_of_ble_eq_true rfl), (Nat.le_of_ble_eq_true rfl)⟩ (c2 := 0) (s2 := 0) rfl rfl (x_failed hx0 M hM 2) (fun v1 L1 f1 hp1 => ?_)
            obtain ⟨rfl, hx1⟩ := hp1
            show gW X vwCl 4 L1 f1 0 0 50 [(3, .null), (0, .ref M), (1, .int (nI pj)), (2, .int (nI qj))] [.int (fA 2)]
            have hE : s_twin S (nI pj) (nI qj) = (fA 2, (aSc (thS S) 1 2)) := by
              unfold s_twin
              rw [if_pos h4, if_pos h11, hpl_q, if_neg (show ¬ kd S qj = 0 by omega), if_pos (show 3 < kd S qj by omega)] <;> rfl
            refine g_widen (c2 := 3) (s2 := 33) (Nat.le_of_ble_eq_true rfl) (Nat.le_of_ble_eq_true rfl) ?_
            exact g_iret hC hR dX9_twin_50 ⟨b, congrArg (fun z => some (Value.int (Prod.fst z))) hE.symm, by rw [hE]; exact hx1, xG.rf⟩
        · cases h22
      · have hw_q : wh S qj < S.1 13 := hI.wt hqj (by omega)
        have hb_q : S.2.1 14 (wh S qj) ≠ 0 := by have := ((hI.2.1 _ hqj).2.2.2.2.2 (by omega)).2; omega
        have hp0_q : plcF (thS S) b qj = some (b.1 6 (wh S qj)) := plc_k hqj hk_q (by decide)
        refine g_aald hC 5 rfl (hx0.Mp rfl).1 (hx0.Mp rfl).2 (qj) rfl (show qj < 10 by omega) (by decide) dX9_twin_21 ?_
        refine g_val (w := .ref (b.1 6 (wh S qj))) (congrArg va_rf hp0_q) ?_
        refine g_ifnonnull (o := some (b.1 6 (wh S qj))) (tgt := 31) hC dX9_twin_22 (by decide) (fun a22 h22 => ?_) (fun h22 => ?_)
        · refine g_aload_n hC dX9_twin_31 rfl 0 rfl (Or.inr ⟨_, rfl⟩) ?_
          refine g_get hC (by decide +kernel) rfl (hx0.M hM).1 (hx0.M hM).2 0 (by decide) (by decide +kernel) (Or.inl rfl) rfl dX9_twin_32 ?_
          refine g_iload_n hC dX9_twin_35 rfl 2 rfl ?_
          refine g_aald hC 5 rfl (hx0.Mp rfl).1 (hx0.Mp rfl).2 (qj) rfl (show qj < 10 by omega) (by decide) dX9_twin_36 ?_
          refine g_val (w := .ref (b.1 6 (wh S qj))) (congrArg va_rf hp0_q) ?_
          refine g_S (As := [.ref (b.1 6 (wh S qj))]) (st := []) hC 1 dX9_twin_37 gX9_twin_X9_asRow rfl (by decide +kernel) ⟨Nat.le_of_ble_eq_true rfl, Nat.le_of_ble_eq_true rfl⟩ rfl (Nat.le_of_ble_eq_true rfl) ⟨Nat.le_of_ble_eq_true rfl, Nat.le_of_ble_eq_true rfl⟩ (c2 := 0) (s2 := 0) rfl rfl (x_asRow (some (b.1 6 (wh S qj))) 5 (Or.inr ⟨_, 1, _, rfl, (hx0.K hw_q rfl hb_q), Or.inr (Or.inr (Or.inr (Or.inr ⟨rfl, rfl⟩)))⟩)) ?_
          refine g_astore_n (lv' := [(3, .null), (0, .ref M), (1, .int (nI pj)), (2, .int (nI qj))]) hC dX9_twin_40 rfl (by decide) rfl (Or.inl rfl) ?_
          refine g_aload_n hC dX9_twin_41 rfl 0 rfl (Or.inl rfl) ?_
          refine g_ifnonnull (o := none) (tgt := 51) hC dX9_twin_42 (by decide) (fun a42 h42 => ?_) (fun h42 => ?_)
          · cases h42
          · refine g_aload_n hC dX9_twin_45 rfl 1 rfl (Or.inr ⟨_, rfl⟩) ?_
            refine g_iconst hC dX9_twin_46 (v := nI 2) (by decide) ?_
            refine g_Vx (As := [.int (nI 2)]) (st := []) hC 1 dX9_twin_47 rfl (hx0.M hM).1 (hx0.M hM).2 gX9_twin_X9_failed rfl (by decide +kernel) ⟨Nat.le_of_ble_eq_true rfl, Nat.le_of_ble_eq_true rfl⟩ rfl (Nat.le_of_ble_eq_true rfl) ⟨(Nat.le_of_ble_eq_true rfl), (Nat.le_of_ble_eq_true rfl)⟩ (c2 := 0) (s2 := 0) rfl rfl (x_failed hx0 M hM 2) (fun v1 L1 f1 hp1 => ?_)
            obtain ⟨rfl, hx1⟩ := hp1
            show gW X vwCl 4 L1 f1 0 0 50 [(3, .null), (0, .ref M), (1, .int (nI pj)), (2, .int (nI qj))] [.int (fA 2)]
            have hE : s_twin S (nI pj) (nI qj) = (fA 2, (aSc (thS S) 1 2)) := by
              unfold s_twin
              rw [if_pos h4, if_pos h11, hpl_q, if_neg (show ¬ kd S qj = 0 by omega), if_pos (show 3 < kd S qj by omega)] <;> rfl
            refine g_widen (c2 := 3) (s2 := 33) (Nat.le_of_ble_eq_true rfl) (Nat.le_of_ble_eq_true rfl) ?_
            exact g_iret hC hR dX9_twin_50 ⟨b, congrArg (fun z => some (Value.int (Prod.fst z))) hE.symm, by rw [hE]; exact hx1, xG.rf⟩
        · cases h22
    · refine g_iconst hC dX9_twin_14 (v := (-1)) (by decide) ?_
      have hE : s_twin S (nI pj) q = ((-1), (thS S)) := by
        unfold s_twin
        rw [if_pos h4, if_neg h11] <;> rfl
      refine g_widen (c2 := 3) (s2 := 33) (Nat.le_of_ble_eq_true rfl) (Nat.le_of_ble_eq_true rfl) ?_
      exact g_iret hC hR dX9_twin_15 ⟨b, congrArg (fun z => some (Value.int (Prod.fst z))) hE.symm, by rw [hE]; exact hx0, xG.rf⟩
set_option maxRecDepth 20000 in
set_option maxHeartbeats 4000000 in
theorem y_find {S : aS} {b : xB} (hx : xR cy S b L f) (hI : aI S) (M : Nat) (hM : b.1 9 0 = M) (p q : Int32) : gCt l D vwCl (gKK D cy adK adV) yX9_find wsX9_find { frames := 5, cells := 0, slots := 0, locals := 109 } [.ref M, .int p, .int q] L f (xP cy S b (s_find S p q).2 (fun _ => some (.int (s_find S p q).1))) := by
  refine gCt.of gKK_ok (by decide) rfl rfl (fun X hC hR hnm => ?_)
  have hC : gC X l _ D vwCl (cyT cy) (gKK D cy adK adV) cX9_find 6 wsX9_find RX9 := hC
  have hx0 := hx.th0
  have hI0 := hI.th
  show gW X vwCl 6 L f 0 0 0 [(0, .ref M), (1, .int p), (2, .int q)] []
  refine g_iload_n hC dX9_find_0 rfl 1 rfl ?_
  refine g_S (As := [.int p]) (st := []) hC 1 dX9_find_1 gX9_find_X9_isPlace rfl (by decide +kernel) ⟨Nat.le_of_ble_eq_true rfl, Nat.le_of_ble_eq_true rfl⟩ rfl (Nat.le_of_ble_eq_true rfl) ⟨Nat.le_of_ble_eq_true rfl, Nat.le_of_ble_eq_true rfl⟩ (c2 := 0) (s2 := 0) rfl rfl (x_isPlace _) ?_
  refine g_ifB_eq (P := isP p) (tgt := 14) hC dX9_find_4 (by decide) (fun h4 => ?_) (fun h4 => ?_)
  · refine g_iconst hC dX9_find_14 (v := (-1)) (by decide) ?_
    have hE : s_find S p q = ((-1), (thS S)) := by
      unfold s_find
      rw [if_neg h4] <;> rfl
    exact g_iret hC hR dX9_find_15 ⟨b, congrArg (fun z => some (Value.int (Prod.fst z))) hE.symm, by rw [hE]; exact hx0, xG.rf⟩
  · obtain ⟨pj, hpj, rfl⟩ := isP_j h4
    have hpl_p : pl (nI pj) = pj := nI_clamp (by omega)
    refine g_iload_n hC dX9_find_7 rfl 2 rfl ?_
    refine g_S (As := [.int q]) (st := []) hC 1 dX9_find_8 gX9_find_X9_isPlace rfl (by decide +kernel) ⟨Nat.le_of_ble_eq_true rfl, Nat.le_of_ble_eq_true rfl⟩ rfl (Nat.le_of_ble_eq_true rfl) ⟨Nat.le_of_ble_eq_true rfl, Nat.le_of_ble_eq_true rfl⟩ (c2 := 0) (s2 := 0) rfl rfl (x_isPlace _) ?_
    refine g_ifB_ne (P := isP q) (tgt := 16) hC dX9_find_11 (by decide) (fun h11 => ?_) (fun h11 => ?_)
    · obtain ⟨qj, hqj, rfl⟩ := isP_j h11
      have hpl_q : pl (nI qj) = qj := nI_clamp (by omega)
      refine g_aload_n hC dX9_find_16 rfl 0 rfl (Or.inr ⟨_, rfl⟩) ?_
      refine g_get hC (by decide +kernel) rfl (hx0.M hM).1 (hx0.M hM).2 0 (by decide) (by decide +kernel) (Or.inl rfl) rfl dX9_find_17 ?_
      refine g_iload_n hC dX9_find_20 rfl 1 rfl ?_
      have h5_p := hI.k5 hpj
      rcases (show kd S pj = 0 ∨ kd S pj = 1 ∨ kd S pj = 2 ∨ kd S pj = 3 ∨ kd S pj = 4 ∨ kd S pj = 5 by omega) with hk_p | hk_p | hk_p | hk_p | hk_p | hk_p
      · have hp0_p : plcF (thS S) b pj = none := plc_0 hpj hk_p
        refine g_aald hC 5 rfl (hx0.Mp rfl).1 (hx0.Mp rfl).2 (pj) rfl (show pj < 10 by omega) (by decide) dX9_find_21 ?_
        refine g_val (w := .null) (congrArg va_rf hp0_p) ?_
        refine g_aload_n hC dX9_find_22 rfl 0 rfl (Or.inr ⟨_, rfl⟩) ?_
        refine g_get hC (by decide +kernel) rfl (hx0.M hM).1 (hx0.M hM).2 0 (by decide) (by decide +kernel) (Or.inl rfl) rfl dX9_find_23 ?_
        refine g_iload_n hC dX9_find_26 rfl 2 rfl ?_
        have h5_q := hI.k5 hqj
        rcases (show kd S qj = 0 ∨ kd S qj = 1 ∨ kd S qj = 2 ∨ kd S qj = 3 ∨ kd S qj = 4 ∨ kd S qj = 5 by omega) with hk_q | hk_q | hk_q | hk_q | hk_q | hk_q
        · have hp0_q : plcF (thS S) b qj = none := plc_0 hqj hk_q
          refine g_aald hC 5 rfl (hx0.Mp rfl).1 (hx0.Mp rfl).2 (qj) rfl (show qj < 10 by omega) (by decide) dX9_find_27 ?_
          refine g_val (w := .null) (congrArg va_rf hp0_q) ?_
          refine g_S (As := [.null, .null]) (st := []) hC 2 dX9_find_28 gX9_find_X9_lookFault rfl (by decide +kernel) ⟨Nat.le_of_ble_eq_true rfl, Nat.le_of_ble_eq_true rfl⟩ rfl (Nat.le_of_ble_eq_true rfl) ⟨Nat.le_of_ble_eq_true rfl, Nat.le_of_ble_eq_true rfl⟩ (c2 := 0) (s2 := 0) rfl rfl (x_lookFault none none 0 0 (Or.inl ⟨rfl, rfl⟩) (Or.inl ⟨rfl, rfl⟩)) ?_
          refine g_istore_n (lv' := [(3, .int (nI 1)), (0, .ref M), (1, .int (nI pj)), (2, .int (nI qj))]) hC dX9_find_31 rfl (by decide) rfl ?_
          refine g_aload_n hC dX9_find_32 rfl 1 rfl (Or.inr ⟨_, rfl⟩) ?_
          refine g_get hC (by decide +kernel) rfl (hx0.M hM).1 (hx0.M hM).2 0 (by decide) (by decide +kernel) (Or.inl rfl) rfl dX9_find_33 ?_
          refine g_iload_n hC dX9_find_36 rfl 2 rfl ?_
          refine g_aald hC 5 rfl (hx0.Mp rfl).1 (hx0.Mp rfl).2 (pj) rfl (show pj < 10 by omega) (by decide) dX9_find_37 ?_
          refine g_val (w := .null) (congrArg va_rf hp0_p) ?_
          refine g_S (As := [.null]) (st := []) hC 1 dX9_find_38 gX9_find_X9_asTable rfl (by decide +kernel) ⟨Nat.le_of_ble_eq_true rfl, Nat.le_of_ble_eq_true rfl⟩ rfl (Nat.le_of_ble_eq_true rfl) ⟨Nat.le_of_ble_eq_true rfl, Nat.le_of_ble_eq_true rfl⟩ (c2 := 0) (s2 := 0) rfl rfl (x_asTable none 0 (Or.inl ⟨rfl, rfl⟩)) ?_
          refine g_astore (lv' := [(4, .null), (3, .int (nI 1)), (0, .ref M), (1, .int (nI pj)), (2, .int (nI qj))]) hC dX9_find_41 (by decide) rfl (Or.inl rfl) ?_
          refine g_aload_n hC dX9_find_43 rfl 2 rfl (Or.inr ⟨_, rfl⟩) ?_
          refine g_get hC (by decide +kernel) rfl (hx0.M hM).1 (hx0.M hM).2 0 (by decide) (by decide +kernel) (Or.inl rfl) rfl dX9_find_44 ?_
          refine g_iload_n hC dX9_find_47 rfl 4 rfl ?_
          refine g_aald hC 5 rfl (hx0.Mp rfl).1 (hx0.Mp rfl).2 (qj) rfl (show qj < 10 by omega) (by decide) dX9_find_48 ?_
          refine g_val (w := .null) (congrArg va_rf hp0_q) ?_
          refine g_S (As := [.null]) (st := []) hC 1 dX9_find_49 gX9_find_X9_asBytes rfl (by decide +kernel) ⟨Nat.le_of_ble_eq_true rfl, Nat.le_of_ble_eq_true rfl⟩ rfl (Nat.le_of_ble_eq_true rfl) ⟨Nat.le_of_ble_eq_true rfl, Nat.le_of_ble_eq_true rfl⟩ (c2 := 0) (s2 := 0) rfl rfl (x_asBytes none 0 (Or.inl ⟨rfl, rfl⟩)) ?_
          refine g_astore (lv' := [(5, .null), (4, .null), (3, .int (nI 1)), (0, .ref M), (1, .int (nI pj)), (2, .int (nI qj))]) hC dX9_find_52 (by decide) rfl (Or.inl rfl) ?_
          refine g_iload_n hC dX9_find_54 rfl 2 rfl ?_
          refine g_ifN_ne (a := 1) (tgt := 68) hC dX9_find_55 (by decide) (by omega) (fun h55 => ?_) (fun h55 => ?_)
          · refine g_aload_n hC dX9_find_68 rfl 3 rfl (Or.inr ⟨_, rfl⟩) ?_
            refine g_iload_n hC dX9_find_69 rfl 2 rfl ?_
            refine g_Vx (As := [.int (nI 1)]) (st := []) hC 1 dX9_find_70 rfl (hx0.M hM).1 (hx0.M hM).2 gX9_find_X9_failed rfl (by decide +kernel) ⟨Nat.le_of_ble_eq_true rfl, Nat.le_of_ble_eq_true rfl⟩ rfl (Nat.le_of_ble_eq_true rfl) ⟨(Nat.le_of_ble_eq_true rfl), (Nat.le_of_ble_eq_true rfl)⟩ (c2 := 0) (s2 := 0) rfl rfl (x_failed hx0 M hM 1) (fun v1 L1 f1 hp1 => ?_)
            obtain ⟨rfl, hx1⟩ := hp1
            show gW X vwCl 6 L1 f1 0 0 73 [(5, .null), (4, .null), (3, .int (nI 1)), (0, .ref M), (1, .int (nI pj)), (2, .int (nI qj))] [.int (fA 1)]
            have hc_p : castF S pj 4 = 1 := by unfold castF isO; rw [hk_p] <;> decide
            have hc_q : castF S qj 1 = 1 := by unfold castF isO; rw [hk_q] <;> decide
            have hbf : bthF S pj qj 1 = 1 := by unfold bthF; rw [hc_p, hc_q] <;> decide
            have hE : s_find S (nI pj) (nI qj) = (fA 1, (aSc (thS S) 1 1)) := by
              unfold s_find
              rw [if_pos h4, if_pos h11, hpl_p, hpl_q, hbf, if_pos (show 0 < 1 by decide)] <;> rfl
            exact g_iret hC hR dX9_find_73 ⟨b, congrArg (fun z => some (Value.int (Prod.fst z))) hE.symm, by rw [hE]; exact hx1, xG.rf⟩
          · exfalso; omega
        · have hw_q : wh S qj < S.1 4 := hI.wl hqj hk_q
          have hp0_q : plcF (thS S) b qj = some (b.1 0 (wh S qj)) := plc_k hqj hk_q (by decide)
          refine g_aald hC 5 rfl (hx0.Mp rfl).1 (hx0.Mp rfl).2 (qj) rfl (show qj < 10 by omega) (by decide) dX9_find_27 ?_
          refine g_val (w := .ref (b.1 0 (wh S qj))) (congrArg va_rf hp0_q) ?_
          refine g_S (As := [.null, .ref (b.1 0 (wh S qj))]) (st := []) hC 2 dX9_find_28 gX9_find_X9_lookFault rfl (by decide +kernel) ⟨Nat.le_of_ble_eq_true rfl, Nat.le_of_ble_eq_true rfl⟩ rfl (Nat.le_of_ble_eq_true rfl) ⟨Nat.le_of_ble_eq_true rfl, Nat.le_of_ble_eq_true rfl⟩ (c2 := 0) (s2 := 0) rfl rfl (x_lookFault none (some (b.1 0 (wh S qj))) 0 1 (Or.inl ⟨rfl, rfl⟩) (Or.inr ⟨_, 0, _, rfl, (hx0.B hw_q rfl), Or.inl ⟨rfl, rfl⟩⟩)) ?_
          refine g_istore_n (lv' := [(3, .int (nI 1)), (0, .ref M), (1, .int (nI pj)), (2, .int (nI qj))]) hC dX9_find_31 rfl (by decide) rfl ?_
          refine g_aload_n hC dX9_find_32 rfl 1 rfl (Or.inr ⟨_, rfl⟩) ?_
          refine g_get hC (by decide +kernel) rfl (hx0.M hM).1 (hx0.M hM).2 0 (by decide) (by decide +kernel) (Or.inl rfl) rfl dX9_find_33 ?_
          refine g_iload_n hC dX9_find_36 rfl 2 rfl ?_
          refine g_aald hC 5 rfl (hx0.Mp rfl).1 (hx0.Mp rfl).2 (pj) rfl (show pj < 10 by omega) (by decide) dX9_find_37 ?_
          refine g_val (w := .null) (congrArg va_rf hp0_p) ?_
          refine g_S (As := [.null]) (st := []) hC 1 dX9_find_38 gX9_find_X9_asTable rfl (by decide +kernel) ⟨Nat.le_of_ble_eq_true rfl, Nat.le_of_ble_eq_true rfl⟩ rfl (Nat.le_of_ble_eq_true rfl) ⟨Nat.le_of_ble_eq_true rfl, Nat.le_of_ble_eq_true rfl⟩ (c2 := 0) (s2 := 0) rfl rfl (x_asTable none 0 (Or.inl ⟨rfl, rfl⟩)) ?_
          refine g_astore (lv' := [(4, .null), (3, .int (nI 1)), (0, .ref M), (1, .int (nI pj)), (2, .int (nI qj))]) hC dX9_find_41 (by decide) rfl (Or.inl rfl) ?_
          refine g_aload_n hC dX9_find_43 rfl 2 rfl (Or.inr ⟨_, rfl⟩) ?_
          refine g_get hC (by decide +kernel) rfl (hx0.M hM).1 (hx0.M hM).2 0 (by decide) (by decide +kernel) (Or.inl rfl) rfl dX9_find_44 ?_
          refine g_iload_n hC dX9_find_47 rfl 4 rfl ?_
          refine g_aald hC 5 rfl (hx0.Mp rfl).1 (hx0.Mp rfl).2 (qj) rfl (show qj < 10 by omega) (by decide) dX9_find_48 ?_
          refine g_val (w := .ref (b.1 0 (wh S qj))) (congrArg va_rf hp0_q) ?_
          refine g_S (As := [.ref (b.1 0 (wh S qj))]) (st := []) hC 1 dX9_find_49 gX9_find_X9_asBytes rfl (by decide +kernel) ⟨Nat.le_of_ble_eq_true rfl, Nat.le_of_ble_eq_true rfl⟩ rfl (Nat.le_of_ble_eq_true rfl) ⟨Nat.le_of_ble_eq_true rfl, Nat.le_of_ble_eq_true rfl⟩ (c2 := 0) (s2 := 0) rfl rfl (x_asBytes (some (b.1 0 (wh S qj))) 1 (Or.inr ⟨_, 0, _, rfl, (hx0.B hw_q rfl), Or.inl ⟨rfl, rfl⟩⟩)) ?_
          refine g_astore (lv' := [(5, .ref (b.1 0 (wh S qj))), (4, .null), (3, .int (nI 1)), (0, .ref M), (1, .int (nI pj)), (2, .int (nI qj))]) hC dX9_find_52 (by decide) rfl (Or.inr ⟨_, rfl⟩) ?_
          refine g_iload_n hC dX9_find_54 rfl 2 rfl ?_
          refine g_ifN_ne (a := 1) (tgt := 68) hC dX9_find_55 (by decide) (by omega) (fun h55 => ?_) (fun h55 => ?_)
          · refine g_aload_n hC dX9_find_68 rfl 3 rfl (Or.inr ⟨_, rfl⟩) ?_
            refine g_iload_n hC dX9_find_69 rfl 2 rfl ?_
            refine g_Vx (As := [.int (nI 1)]) (st := []) hC 1 dX9_find_70 rfl (hx0.M hM).1 (hx0.M hM).2 gX9_find_X9_failed rfl (by decide +kernel) ⟨Nat.le_of_ble_eq_true rfl, Nat.le_of_ble_eq_true rfl⟩ rfl (Nat.le_of_ble_eq_true rfl) ⟨(Nat.le_of_ble_eq_true rfl), (Nat.le_of_ble_eq_true rfl)⟩ (c2 := 0) (s2 := 0) rfl rfl (x_failed hx0 M hM 1) (fun v1 L1 f1 hp1 => ?_)
            obtain ⟨rfl, hx1⟩ := hp1
            show gW X vwCl 6 L1 f1 0 0 73 [(5, .ref (b.1 0 (wh S qj))), (4, .null), (3, .int (nI 1)), (0, .ref M), (1, .int (nI pj)), (2, .int (nI qj))] [.int (fA 1)]
            have hc_p : castF S pj 4 = 1 := by unfold castF isO; rw [hk_p] <;> decide
            have hc_q : castF S qj 1 = 0 := by unfold castF isO; rw [hk_q] <;> decide
            have hbf : bthF S pj qj 1 = 1 := by unfold bthF; rw [hc_p, hc_q] <;> decide
            have hE : s_find S (nI pj) (nI qj) = (fA 1, (aSc (thS S) 1 1)) := by
              unfold s_find
              rw [if_pos h4, if_pos h11, hpl_p, hpl_q, hbf, if_pos (show 0 < 1 by decide)] <;> rfl
            exact g_iret hC hR dX9_find_73 ⟨b, congrArg (fun z => some (Value.int (Prod.fst z))) hE.symm, by rw [hE]; exact hx1, xG.rf⟩
          · exfalso; omega
        · have hw_q : wh S qj < S.1 7 := hI.ws hqj hk_q
          have hp0_q : plcF (thS S) b qj = some (b.1 2 (wh S qj)) := plc_k hqj hk_q (by decide)
          refine g_aald hC 5 rfl (hx0.Mp rfl).1 (hx0.Mp rfl).2 (qj) rfl (show qj < 10 by omega) (by decide) dX9_find_27 ?_
          refine g_val (w := .ref (b.1 2 (wh S qj))) (congrArg va_rf hp0_q) ?_
          refine g_S (As := [.null, .ref (b.1 2 (wh S qj))]) (st := []) hC 2 dX9_find_28 gX9_find_X9_lookFault rfl (by decide +kernel) ⟨Nat.le_of_ble_eq_true rfl, Nat.le_of_ble_eq_true rfl⟩ rfl (Nat.le_of_ble_eq_true rfl) ⟨Nat.le_of_ble_eq_true rfl, Nat.le_of_ble_eq_true rfl⟩ (c2 := 0) (s2 := 0) rfl rfl (x_lookFault none (some (b.1 2 (wh S qj))) 0 2 (Or.inl ⟨rfl, rfl⟩) (Or.inr ⟨_, 4, _, rfl, (hx0.G hw_q rfl), Or.inr (Or.inl ⟨rfl, rfl⟩)⟩)) ?_
          refine g_istore_n (lv' := [(3, .int (nI 2)), (0, .ref M), (1, .int (nI pj)), (2, .int (nI qj))]) hC dX9_find_31 rfl (by decide) rfl ?_
          refine g_aload_n hC dX9_find_32 rfl 1 rfl (Or.inr ⟨_, rfl⟩) ?_
          refine g_get hC (by decide +kernel) rfl (hx0.M hM).1 (hx0.M hM).2 0 (by decide) (by decide +kernel) (Or.inl rfl) rfl dX9_find_33 ?_
          refine g_iload_n hC dX9_find_36 rfl 2 rfl ?_
          refine g_aald hC 5 rfl (hx0.Mp rfl).1 (hx0.Mp rfl).2 (pj) rfl (show pj < 10 by omega) (by decide) dX9_find_37 ?_
          refine g_val (w := .null) (congrArg va_rf hp0_p) ?_
          refine g_S (As := [.null]) (st := []) hC 1 dX9_find_38 gX9_find_X9_asTable rfl (by decide +kernel) ⟨Nat.le_of_ble_eq_true rfl, Nat.le_of_ble_eq_true rfl⟩ rfl (Nat.le_of_ble_eq_true rfl) ⟨Nat.le_of_ble_eq_true rfl, Nat.le_of_ble_eq_true rfl⟩ (c2 := 0) (s2 := 0) rfl rfl (x_asTable none 0 (Or.inl ⟨rfl, rfl⟩)) ?_
          refine g_astore (lv' := [(4, .null), (3, .int (nI 2)), (0, .ref M), (1, .int (nI pj)), (2, .int (nI qj))]) hC dX9_find_41 (by decide) rfl (Or.inl rfl) ?_
          refine g_aload_n hC dX9_find_43 rfl 2 rfl (Or.inr ⟨_, rfl⟩) ?_
          refine g_get hC (by decide +kernel) rfl (hx0.M hM).1 (hx0.M hM).2 0 (by decide) (by decide +kernel) (Or.inl rfl) rfl dX9_find_44 ?_
          refine g_iload_n hC dX9_find_47 rfl 4 rfl ?_
          refine g_aald hC 5 rfl (hx0.Mp rfl).1 (hx0.Mp rfl).2 (qj) rfl (show qj < 10 by omega) (by decide) dX9_find_48 ?_
          refine g_val (w := .ref (b.1 2 (wh S qj))) (congrArg va_rf hp0_q) ?_
          refine g_S (As := [.ref (b.1 2 (wh S qj))]) (st := []) hC 1 dX9_find_49 gX9_find_X9_asBytes rfl (by decide +kernel) ⟨Nat.le_of_ble_eq_true rfl, Nat.le_of_ble_eq_true rfl⟩ rfl (Nat.le_of_ble_eq_true rfl) ⟨Nat.le_of_ble_eq_true rfl, Nat.le_of_ble_eq_true rfl⟩ (c2 := 0) (s2 := 0) rfl rfl (x_asBytes (some (b.1 2 (wh S qj))) 2 (Or.inr ⟨_, 4, _, rfl, (hx0.G hw_q rfl), Or.inr (Or.inl ⟨rfl, rfl⟩)⟩)) ?_
          refine g_astore (lv' := [(5, .null), (4, .null), (3, .int (nI 2)), (0, .ref M), (1, .int (nI pj)), (2, .int (nI qj))]) hC dX9_find_52 (by decide) rfl (Or.inl rfl) ?_
          refine g_iload_n hC dX9_find_54 rfl 2 rfl ?_
          refine g_ifN_ne (a := 2) (tgt := 68) hC dX9_find_55 (by decide) (by omega) (fun h55 => ?_) (fun h55 => ?_)
          · refine g_aload_n hC dX9_find_68 rfl 3 rfl (Or.inr ⟨_, rfl⟩) ?_
            refine g_iload_n hC dX9_find_69 rfl 2 rfl ?_
            refine g_Vx (As := [.int (nI 2)]) (st := []) hC 1 dX9_find_70 rfl (hx0.M hM).1 (hx0.M hM).2 gX9_find_X9_failed rfl (by decide +kernel) ⟨Nat.le_of_ble_eq_true rfl, Nat.le_of_ble_eq_true rfl⟩ rfl (Nat.le_of_ble_eq_true rfl) ⟨(Nat.le_of_ble_eq_true rfl), (Nat.le_of_ble_eq_true rfl)⟩ (c2 := 0) (s2 := 0) rfl rfl (x_failed hx0 M hM 2) (fun v1 L1 f1 hp1 => ?_)
            obtain ⟨rfl, hx1⟩ := hp1
            show gW X vwCl 6 L1 f1 0 0 73 [(5, .null), (4, .null), (3, .int (nI 2)), (0, .ref M), (1, .int (nI pj)), (2, .int (nI qj))] [.int (fA 2)]
            have hc_p : castF S pj 4 = 1 := by unfold castF isO; rw [hk_p] <;> decide
            have hc_q : castF S qj 1 = 2 := by unfold castF isO; rw [hk_q] <;> decide
            have hbf : bthF S pj qj 1 = 2 := by unfold bthF; rw [hc_p, hc_q] <;> decide
            have hE : s_find S (nI pj) (nI qj) = (fA 2, (aSc (thS S) 1 2)) := by
              unfold s_find
              rw [if_pos h4, if_pos h11, hpl_p, hpl_q, hbf, if_pos (show 0 < 2 by decide)] <;> rfl
            exact g_iret hC hR dX9_find_73 ⟨b, congrArg (fun z => some (Value.int (Prod.fst z))) hE.symm, by rw [hE]; exact hx1, xG.rf⟩
          · exfalso; omega
        · have hw_q : wh S qj < S.1 10 := hI.wr hqj hk_q
          have hp0_q : plcF (thS S) b qj = some (b.1 4 (wh S qj)) := plc_k hqj hk_q (by decide)
          refine g_aald hC 5 rfl (hx0.Mp rfl).1 (hx0.Mp rfl).2 (qj) rfl (show qj < 10 by omega) (by decide) dX9_find_27 ?_
          refine g_val (w := .ref (b.1 4 (wh S qj))) (congrArg va_rf hp0_q) ?_
          refine g_S (As := [.null, .ref (b.1 4 (wh S qj))]) (st := []) hC 2 dX9_find_28 gX9_find_X9_lookFault rfl (by decide +kernel) ⟨Nat.le_of_ble_eq_true rfl, Nat.le_of_ble_eq_true rfl⟩ rfl (Nat.le_of_ble_eq_true rfl) ⟨Nat.le_of_ble_eq_true rfl, Nat.le_of_ble_eq_true rfl⟩ (c2 := 0) (s2 := 0) rfl rfl (x_lookFault none (some (b.1 4 (wh S qj))) 0 3 (Or.inl ⟨rfl, rfl⟩) (Or.inr ⟨_, 3, _, rfl, (hx0.W hw_q rfl), Or.inr (Or.inr (Or.inl ⟨rfl, rfl⟩))⟩)) ?_
          refine g_istore_n (lv' := [(3, .int (nI 2)), (0, .ref M), (1, .int (nI pj)), (2, .int (nI qj))]) hC dX9_find_31 rfl (by decide) rfl ?_
          refine g_aload_n hC dX9_find_32 rfl 1 rfl (Or.inr ⟨_, rfl⟩) ?_
          refine g_get hC (by decide +kernel) rfl (hx0.M hM).1 (hx0.M hM).2 0 (by decide) (by decide +kernel) (Or.inl rfl) rfl dX9_find_33 ?_
          refine g_iload_n hC dX9_find_36 rfl 2 rfl ?_
          refine g_aald hC 5 rfl (hx0.Mp rfl).1 (hx0.Mp rfl).2 (pj) rfl (show pj < 10 by omega) (by decide) dX9_find_37 ?_
          refine g_val (w := .null) (congrArg va_rf hp0_p) ?_
          refine g_S (As := [.null]) (st := []) hC 1 dX9_find_38 gX9_find_X9_asTable rfl (by decide +kernel) ⟨Nat.le_of_ble_eq_true rfl, Nat.le_of_ble_eq_true rfl⟩ rfl (Nat.le_of_ble_eq_true rfl) ⟨Nat.le_of_ble_eq_true rfl, Nat.le_of_ble_eq_true rfl⟩ (c2 := 0) (s2 := 0) rfl rfl (x_asTable none 0 (Or.inl ⟨rfl, rfl⟩)) ?_
          refine g_astore (lv' := [(4, .null), (3, .int (nI 2)), (0, .ref M), (1, .int (nI pj)), (2, .int (nI qj))]) hC dX9_find_41 (by decide) rfl (Or.inl rfl) ?_
          refine g_aload_n hC dX9_find_43 rfl 2 rfl (Or.inr ⟨_, rfl⟩) ?_
          refine g_get hC (by decide +kernel) rfl (hx0.M hM).1 (hx0.M hM).2 0 (by decide) (by decide +kernel) (Or.inl rfl) rfl dX9_find_44 ?_
          refine g_iload_n hC dX9_find_47 rfl 4 rfl ?_
          refine g_aald hC 5 rfl (hx0.Mp rfl).1 (hx0.Mp rfl).2 (qj) rfl (show qj < 10 by omega) (by decide) dX9_find_48 ?_
          refine g_val (w := .ref (b.1 4 (wh S qj))) (congrArg va_rf hp0_q) ?_
          refine g_S (As := [.ref (b.1 4 (wh S qj))]) (st := []) hC 1 dX9_find_49 gX9_find_X9_asBytes rfl (by decide +kernel) ⟨Nat.le_of_ble_eq_true rfl, Nat.le_of_ble_eq_true rfl⟩ rfl (Nat.le_of_ble_eq_true rfl) ⟨Nat.le_of_ble_eq_true rfl, Nat.le_of_ble_eq_true rfl⟩ (c2 := 0) (s2 := 0) rfl rfl (x_asBytes (some (b.1 4 (wh S qj))) 3 (Or.inr ⟨_, 3, _, rfl, (hx0.W hw_q rfl), Or.inr (Or.inr (Or.inl ⟨rfl, rfl⟩))⟩)) ?_
          refine g_astore (lv' := [(5, .null), (4, .null), (3, .int (nI 2)), (0, .ref M), (1, .int (nI pj)), (2, .int (nI qj))]) hC dX9_find_52 (by decide) rfl (Or.inl rfl) ?_
          refine g_iload_n hC dX9_find_54 rfl 2 rfl ?_
          refine g_ifN_ne (a := 2) (tgt := 68) hC dX9_find_55 (by decide) (by omega) (fun h55 => ?_) (fun h55 => ?_)
          · refine g_aload_n hC dX9_find_68 rfl 3 rfl (Or.inr ⟨_, rfl⟩) ?_
            refine g_iload_n hC dX9_find_69 rfl 2 rfl ?_
            refine g_Vx (As := [.int (nI 2)]) (st := []) hC 1 dX9_find_70 rfl (hx0.M hM).1 (hx0.M hM).2 gX9_find_X9_failed rfl (by decide +kernel) ⟨Nat.le_of_ble_eq_true rfl, Nat.le_of_ble_eq_true rfl⟩ rfl (Nat.le_of_ble_eq_true rfl) ⟨(Nat.le_of_ble_eq_true rfl), (Nat.le_of_ble_eq_true rfl)⟩ (c2 := 0) (s2 := 0) rfl rfl (x_failed hx0 M hM 2) (fun v1 L1 f1 hp1 => ?_)
            obtain ⟨rfl, hx1⟩ := hp1
            show gW X vwCl 6 L1 f1 0 0 73 [(5, .null), (4, .null), (3, .int (nI 2)), (0, .ref M), (1, .int (nI pj)), (2, .int (nI qj))] [.int (fA 2)]
            have hc_p : castF S pj 4 = 1 := by unfold castF isO; rw [hk_p] <;> decide
            have hc_q : castF S qj 1 = 2 := by unfold castF isO; rw [hk_q] <;> decide
            have hbf : bthF S pj qj 1 = 2 := by unfold bthF; rw [hc_p, hc_q] <;> decide
            have hE : s_find S (nI pj) (nI qj) = (fA 2, (aSc (thS S) 1 2)) := by
              unfold s_find
              rw [if_pos h4, if_pos h11, hpl_p, hpl_q, hbf, if_pos (show 0 < 2 by decide)] <;> rfl
            exact g_iret hC hR dX9_find_73 ⟨b, congrArg (fun z => some (Value.int (Prod.fst z))) hE.symm, by rw [hE]; exact hx1, xG.rf⟩
          · exfalso; omega
        · have hw_q : wh S qj < S.1 13 := hI.wt hqj (by omega)
          have hb_q : S.2.1 14 (wh S qj) = 0 := by have := ((hI.2.1 _ hqj).2.2.2.2.2 (by omega)).2; omega
          have hp0_q : plcF (thS S) b qj = some (b.1 6 (wh S qj)) := plc_k hqj hk_q (by decide)
          refine g_aald hC 5 rfl (hx0.Mp rfl).1 (hx0.Mp rfl).2 (qj) rfl (show qj < 10 by omega) (by decide) dX9_find_27 ?_
          refine g_val (w := .ref (b.1 6 (wh S qj))) (congrArg va_rf hp0_q) ?_
          refine g_S (As := [.null, .ref (b.1 6 (wh S qj))]) (st := []) hC 2 dX9_find_28 gX9_find_X9_lookFault rfl (by decide +kernel) ⟨Nat.le_of_ble_eq_true rfl, Nat.le_of_ble_eq_true rfl⟩ rfl (Nat.le_of_ble_eq_true rfl) ⟨Nat.le_of_ble_eq_true rfl, Nat.le_of_ble_eq_true rfl⟩ (c2 := 0) (s2 := 0) rfl rfl (x_lookFault none (some (b.1 6 (wh S qj))) 0 4 (Or.inl ⟨rfl, rfl⟩) (Or.inr ⟨_, 5, _, rfl, (hx0.T hw_q rfl hb_q), Or.inr (Or.inr (Or.inr (Or.inl ⟨rfl, rfl⟩)))⟩)) ?_
          refine g_istore_n (lv' := [(3, .int (nI 2)), (0, .ref M), (1, .int (nI pj)), (2, .int (nI qj))]) hC dX9_find_31 rfl (by decide) rfl ?_
          refine g_aload_n hC dX9_find_32 rfl 1 rfl (Or.inr ⟨_, rfl⟩) ?_
          refine g_get hC (by decide +kernel) rfl (hx0.M hM).1 (hx0.M hM).2 0 (by decide) (by decide +kernel) (Or.inl rfl) rfl dX9_find_33 ?_
          refine g_iload_n hC dX9_find_36 rfl 2 rfl ?_
          refine g_aald hC 5 rfl (hx0.Mp rfl).1 (hx0.Mp rfl).2 (pj) rfl (show pj < 10 by omega) (by decide) dX9_find_37 ?_
          refine g_val (w := .null) (congrArg va_rf hp0_p) ?_
          refine g_S (As := [.null]) (st := []) hC 1 dX9_find_38 gX9_find_X9_asTable rfl (by decide +kernel) ⟨Nat.le_of_ble_eq_true rfl, Nat.le_of_ble_eq_true rfl⟩ rfl (Nat.le_of_ble_eq_true rfl) ⟨Nat.le_of_ble_eq_true rfl, Nat.le_of_ble_eq_true rfl⟩ (c2 := 0) (s2 := 0) rfl rfl (x_asTable none 0 (Or.inl ⟨rfl, rfl⟩)) ?_
          refine g_astore (lv' := [(4, .null), (3, .int (nI 2)), (0, .ref M), (1, .int (nI pj)), (2, .int (nI qj))]) hC dX9_find_41 (by decide) rfl (Or.inl rfl) ?_
          refine g_aload_n hC dX9_find_43 rfl 2 rfl (Or.inr ⟨_, rfl⟩) ?_
          refine g_get hC (by decide +kernel) rfl (hx0.M hM).1 (hx0.M hM).2 0 (by decide) (by decide +kernel) (Or.inl rfl) rfl dX9_find_44 ?_
          refine g_iload_n hC dX9_find_47 rfl 4 rfl ?_
          refine g_aald hC 5 rfl (hx0.Mp rfl).1 (hx0.Mp rfl).2 (qj) rfl (show qj < 10 by omega) (by decide) dX9_find_48 ?_
          refine g_val (w := .ref (b.1 6 (wh S qj))) (congrArg va_rf hp0_q) ?_
          refine g_S (As := [.ref (b.1 6 (wh S qj))]) (st := []) hC 1 dX9_find_49 gX9_find_X9_asBytes rfl (by decide +kernel) ⟨Nat.le_of_ble_eq_true rfl, Nat.le_of_ble_eq_true rfl⟩ rfl (Nat.le_of_ble_eq_true rfl) ⟨Nat.le_of_ble_eq_true rfl, Nat.le_of_ble_eq_true rfl⟩ (c2 := 0) (s2 := 0) rfl rfl (x_asBytes (some (b.1 6 (wh S qj))) 4 (Or.inr ⟨_, 5, _, rfl, (hx0.T hw_q rfl hb_q), Or.inr (Or.inr (Or.inr (Or.inl ⟨rfl, rfl⟩)))⟩)) ?_
          refine g_astore (lv' := [(5, .null), (4, .null), (3, .int (nI 2)), (0, .ref M), (1, .int (nI pj)), (2, .int (nI qj))]) hC dX9_find_52 (by decide) rfl (Or.inl rfl) ?_
          refine g_iload_n hC dX9_find_54 rfl 2 rfl ?_
          refine g_ifN_ne (a := 2) (tgt := 68) hC dX9_find_55 (by decide) (by omega) (fun h55 => ?_) (fun h55 => ?_)
          · refine g_aload_n hC dX9_find_68 rfl 3 rfl (Or.inr ⟨_, rfl⟩) ?_
            refine g_iload_n hC dX9_find_69 rfl 2 rfl ?_
            refine g_Vx (As := [.int (nI 2)]) (st := []) hC 1 dX9_find_70 rfl (hx0.M hM).1 (hx0.M hM).2 gX9_find_X9_failed rfl (by decide +kernel) ⟨Nat.le_of_ble_eq_true rfl, Nat.le_of_ble_eq_true rfl⟩ rfl (Nat.le_of_ble_eq_true rfl) ⟨(Nat.le_of_ble_eq_true rfl), (Nat.le_of_ble_eq_true rfl)⟩ (c2 := 0) (s2 := 0) rfl rfl (x_failed hx0 M hM 2) (fun v1 L1 f1 hp1 => ?_)
            obtain ⟨rfl, hx1⟩ := hp1
            show gW X vwCl 6 L1 f1 0 0 73 [(5, .null), (4, .null), (3, .int (nI 2)), (0, .ref M), (1, .int (nI pj)), (2, .int (nI qj))] [.int (fA 2)]
            have hc_p : castF S pj 4 = 1 := by unfold castF isO; rw [hk_p] <;> decide
            have hc_q : castF S qj 1 = 2 := by unfold castF isO; rw [hk_q] <;> decide
            have hbf : bthF S pj qj 1 = 2 := by unfold bthF; rw [hc_p, hc_q] <;> decide
            have hE : s_find S (nI pj) (nI qj) = (fA 2, (aSc (thS S) 1 2)) := by
              unfold s_find
              rw [if_pos h4, if_pos h11, hpl_p, hpl_q, hbf, if_pos (show 0 < 2 by decide)] <;> rfl
            exact g_iret hC hR dX9_find_73 ⟨b, congrArg (fun z => some (Value.int (Prod.fst z))) hE.symm, by rw [hE]; exact hx1, xG.rf⟩
          · exfalso; omega
        · have hw_q : wh S qj < S.1 13 := hI.wt hqj (by omega)
          have hb_q : S.2.1 14 (wh S qj) ≠ 0 := by have := ((hI.2.1 _ hqj).2.2.2.2.2 (by omega)).2; omega
          have hp0_q : plcF (thS S) b qj = some (b.1 6 (wh S qj)) := plc_k hqj hk_q (by decide)
          refine g_aald hC 5 rfl (hx0.Mp rfl).1 (hx0.Mp rfl).2 (qj) rfl (show qj < 10 by omega) (by decide) dX9_find_27 ?_
          refine g_val (w := .ref (b.1 6 (wh S qj))) (congrArg va_rf hp0_q) ?_
          refine g_S (As := [.null, .ref (b.1 6 (wh S qj))]) (st := []) hC 2 dX9_find_28 gX9_find_X9_lookFault rfl (by decide +kernel) ⟨Nat.le_of_ble_eq_true rfl, Nat.le_of_ble_eq_true rfl⟩ rfl (Nat.le_of_ble_eq_true rfl) ⟨Nat.le_of_ble_eq_true rfl, Nat.le_of_ble_eq_true rfl⟩ (c2 := 0) (s2 := 0) rfl rfl (x_lookFault none (some (b.1 6 (wh S qj))) 0 5 (Or.inl ⟨rfl, rfl⟩) (Or.inr ⟨_, 1, _, rfl, (hx0.K hw_q rfl hb_q), Or.inr (Or.inr (Or.inr (Or.inr ⟨rfl, rfl⟩)))⟩)) ?_
          refine g_istore_n (lv' := [(3, .int (nI 2)), (0, .ref M), (1, .int (nI pj)), (2, .int (nI qj))]) hC dX9_find_31 rfl (by decide) rfl ?_
          refine g_aload_n hC dX9_find_32 rfl 1 rfl (Or.inr ⟨_, rfl⟩) ?_
          refine g_get hC (by decide +kernel) rfl (hx0.M hM).1 (hx0.M hM).2 0 (by decide) (by decide +kernel) (Or.inl rfl) rfl dX9_find_33 ?_
          refine g_iload_n hC dX9_find_36 rfl 2 rfl ?_
          refine g_aald hC 5 rfl (hx0.Mp rfl).1 (hx0.Mp rfl).2 (pj) rfl (show pj < 10 by omega) (by decide) dX9_find_37 ?_
          refine g_val (w := .null) (congrArg va_rf hp0_p) ?_
          refine g_S (As := [.null]) (st := []) hC 1 dX9_find_38 gX9_find_X9_asTable rfl (by decide +kernel) ⟨Nat.le_of_ble_eq_true rfl, Nat.le_of_ble_eq_true rfl⟩ rfl (Nat.le_of_ble_eq_true rfl) ⟨Nat.le_of_ble_eq_true rfl, Nat.le_of_ble_eq_true rfl⟩ (c2 := 0) (s2 := 0) rfl rfl (x_asTable none 0 (Or.inl ⟨rfl, rfl⟩)) ?_
          refine g_astore (lv' := [(4, .null), (3, .int (nI 2)), (0, .ref M), (1, .int (nI pj)), (2, .int (nI qj))]) hC dX9_find_41 (by decide) rfl (Or.inl rfl) ?_
          refine g_aload_n hC dX9_find_43 rfl 2 rfl (Or.inr ⟨_, rfl⟩) ?_
          refine g_get hC (by decide +kernel) rfl (hx0.M hM).1 (hx0.M hM).2 0 (by decide) (by decide +kernel) (Or.inl rfl) rfl dX9_find_44 ?_
          refine g_iload_n hC dX9_find_47 rfl 4 rfl ?_
          refine g_aald hC 5 rfl (hx0.Mp rfl).1 (hx0.Mp rfl).2 (qj) rfl (show qj < 10 by omega) (by decide) dX9_find_48 ?_
          refine g_val (w := .ref (b.1 6 (wh S qj))) (congrArg va_rf hp0_q) ?_
          refine g_S (As := [.ref (b.1 6 (wh S qj))]) (st := []) hC 1 dX9_find_49 gX9_find_X9_asBytes rfl (by decide +kernel) ⟨Nat.le_of_ble_eq_true rfl, Nat.le_of_ble_eq_true rfl⟩ rfl (Nat.le_of_ble_eq_true rfl) ⟨Nat.le_of_ble_eq_true rfl, Nat.le_of_ble_eq_true rfl⟩ (c2 := 0) (s2 := 0) rfl rfl (x_asBytes (some (b.1 6 (wh S qj))) 5 (Or.inr ⟨_, 1, _, rfl, (hx0.K hw_q rfl hb_q), Or.inr (Or.inr (Or.inr (Or.inr ⟨rfl, rfl⟩)))⟩)) ?_
          refine g_astore (lv' := [(5, .null), (4, .null), (3, .int (nI 2)), (0, .ref M), (1, .int (nI pj)), (2, .int (nI qj))]) hC dX9_find_52 (by decide) rfl (Or.inl rfl) ?_
          refine g_iload_n hC dX9_find_54 rfl 2 rfl ?_
          refine g_ifN_ne (a := 2) (tgt := 68) hC dX9_find_55 (by decide) (by omega) (fun h55 => ?_) (fun h55 => ?_)
          · refine g_aload_n hC dX9_find_68 rfl 3 rfl (Or.inr ⟨_, rfl⟩) ?_
            refine g_iload_n hC dX9_find_69 rfl 2 rfl ?_
            refine g_Vx (As := [.int (nI 2)]) (st := []) hC 1 dX9_find_70 rfl (hx0.M hM).1 (hx0.M hM).2 gX9_find_X9_failed rfl (by decide +kernel) ⟨Nat.le_of_ble_eq_true rfl, Nat.le_of_ble_eq_true rfl⟩ rfl (Nat.le_of_ble_eq_true rfl) ⟨(Nat.le_of_ble_eq_true rfl), (Nat.le_of_ble_eq_true rfl)⟩ (c2 := 0) (s2 := 0) rfl rfl (x_failed hx0 M hM 2) (fun v1 L1 f1 hp1 => ?_)
            obtain ⟨rfl, hx1⟩ := hp1
            show gW X vwCl 6 L1 f1 0 0 73 [(5, .null), (4, .null), (3, .int (nI 2)), (0, .ref M), (1, .int (nI pj)), (2, .int (nI qj))] [.int (fA 2)]
            have hc_p : castF S pj 4 = 1 := by unfold castF isO; rw [hk_p] <;> decide
            have hc_q : castF S qj 1 = 2 := by unfold castF isO; rw [hk_q] <;> decide
            have hbf : bthF S pj qj 1 = 2 := by unfold bthF; rw [hc_p, hc_q] <;> decide
            have hE : s_find S (nI pj) (nI qj) = (fA 2, (aSc (thS S) 1 2)) := by
              unfold s_find
              rw [if_pos h4, if_pos h11, hpl_p, hpl_q, hbf, if_pos (show 0 < 2 by decide)] <;> rfl
            exact g_iret hC hR dX9_find_73 ⟨b, congrArg (fun z => some (Value.int (Prod.fst z))) hE.symm, by rw [hE]; exact hx1, xG.rf⟩
          · exfalso; omega
      · have hw_p : wh S pj < S.1 4 := hI.wl hpj hk_p
        have hp0_p : plcF (thS S) b pj = some (b.1 0 (wh S pj)) := plc_k hpj hk_p (by decide)
        refine g_aald hC 5 rfl (hx0.Mp rfl).1 (hx0.Mp rfl).2 (pj) rfl (show pj < 10 by omega) (by decide) dX9_find_21 ?_
        refine g_val (w := .ref (b.1 0 (wh S pj))) (congrArg va_rf hp0_p) ?_
        refine g_aload_n hC dX9_find_22 rfl 0 rfl (Or.inr ⟨_, rfl⟩) ?_
        refine g_get hC (by decide +kernel) rfl (hx0.M hM).1 (hx0.M hM).2 0 (by decide) (by decide +kernel) (Or.inl rfl) rfl dX9_find_23 ?_
        refine g_iload_n hC dX9_find_26 rfl 2 rfl ?_
        have h5_q := hI.k5 hqj
        rcases (show kd S qj = 0 ∨ kd S qj = 1 ∨ kd S qj = 2 ∨ kd S qj = 3 ∨ kd S qj = 4 ∨ kd S qj = 5 by omega) with hk_q | hk_q | hk_q | hk_q | hk_q | hk_q
        · have hp0_q : plcF (thS S) b qj = none := plc_0 hqj hk_q
          refine g_aald hC 5 rfl (hx0.Mp rfl).1 (hx0.Mp rfl).2 (qj) rfl (show qj < 10 by omega) (by decide) dX9_find_27 ?_
          refine g_val (w := .null) (congrArg va_rf hp0_q) ?_
          refine g_S (As := [.ref (b.1 0 (wh S pj)), .null]) (st := []) hC 2 dX9_find_28 gX9_find_X9_lookFault rfl (by decide +kernel) ⟨Nat.le_of_ble_eq_true rfl, Nat.le_of_ble_eq_true rfl⟩ rfl (Nat.le_of_ble_eq_true rfl) ⟨Nat.le_of_ble_eq_true rfl, Nat.le_of_ble_eq_true rfl⟩ (c2 := 0) (s2 := 0) rfl rfl (x_lookFault (some (b.1 0 (wh S pj))) none 1 0 (Or.inr ⟨_, 0, _, rfl, (hx0.B hw_p rfl), Or.inl ⟨rfl, rfl⟩⟩) (Or.inl ⟨rfl, rfl⟩)) ?_
          refine g_istore_n (lv' := [(3, .int (nI 2)), (0, .ref M), (1, .int (nI pj)), (2, .int (nI qj))]) hC dX9_find_31 rfl (by decide) rfl ?_
          refine g_aload_n hC dX9_find_32 rfl 1 rfl (Or.inr ⟨_, rfl⟩) ?_
          refine g_get hC (by decide +kernel) rfl (hx0.M hM).1 (hx0.M hM).2 0 (by decide) (by decide +kernel) (Or.inl rfl) rfl dX9_find_33 ?_
          refine g_iload_n hC dX9_find_36 rfl 2 rfl ?_
          refine g_aald hC 5 rfl (hx0.Mp rfl).1 (hx0.Mp rfl).2 (pj) rfl (show pj < 10 by omega) (by decide) dX9_find_37 ?_
          refine g_val (w := .ref (b.1 0 (wh S pj))) (congrArg va_rf hp0_p) ?_
          refine g_S (As := [.ref (b.1 0 (wh S pj))]) (st := []) hC 1 dX9_find_38 gX9_find_X9_asTable rfl (by decide +kernel) ⟨Nat.le_of_ble_eq_true rfl, Nat.le_of_ble_eq_true rfl⟩ rfl (Nat.le_of_ble_eq_true rfl) ⟨Nat.le_of_ble_eq_true rfl, Nat.le_of_ble_eq_true rfl⟩ (c2 := 0) (s2 := 0) rfl rfl (x_asTable (some (b.1 0 (wh S pj))) 1 (Or.inr ⟨_, 0, _, rfl, (hx0.B hw_p rfl), Or.inl ⟨rfl, rfl⟩⟩)) ?_
          refine g_astore (lv' := [(4, .null), (3, .int (nI 2)), (0, .ref M), (1, .int (nI pj)), (2, .int (nI qj))]) hC dX9_find_41 (by decide) rfl (Or.inl rfl) ?_
          refine g_aload_n hC dX9_find_43 rfl 2 rfl (Or.inr ⟨_, rfl⟩) ?_
          refine g_get hC (by decide +kernel) rfl (hx0.M hM).1 (hx0.M hM).2 0 (by decide) (by decide +kernel) (Or.inl rfl) rfl dX9_find_44 ?_
          refine g_iload_n hC dX9_find_47 rfl 4 rfl ?_
          refine g_aald hC 5 rfl (hx0.Mp rfl).1 (hx0.Mp rfl).2 (qj) rfl (show qj < 10 by omega) (by decide) dX9_find_48 ?_
          refine g_val (w := .null) (congrArg va_rf hp0_q) ?_
          refine g_S (As := [.null]) (st := []) hC 1 dX9_find_49 gX9_find_X9_asBytes rfl (by decide +kernel) ⟨Nat.le_of_ble_eq_true rfl, Nat.le_of_ble_eq_true rfl⟩ rfl (Nat.le_of_ble_eq_true rfl) ⟨Nat.le_of_ble_eq_true rfl, Nat.le_of_ble_eq_true rfl⟩ (c2 := 0) (s2 := 0) rfl rfl (x_asBytes none 0 (Or.inl ⟨rfl, rfl⟩)) ?_
          refine g_astore (lv' := [(5, .null), (4, .null), (3, .int (nI 2)), (0, .ref M), (1, .int (nI pj)), (2, .int (nI qj))]) hC dX9_find_52 (by decide) rfl (Or.inl rfl) ?_
          refine g_iload_n hC dX9_find_54 rfl 2 rfl ?_
          refine g_ifN_ne (a := 2) (tgt := 68) hC dX9_find_55 (by decide) (by omega) (fun h55 => ?_) (fun h55 => ?_)
          · refine g_aload_n hC dX9_find_68 rfl 3 rfl (Or.inr ⟨_, rfl⟩) ?_
            refine g_iload_n hC dX9_find_69 rfl 2 rfl ?_
            refine g_Vx (As := [.int (nI 2)]) (st := []) hC 1 dX9_find_70 rfl (hx0.M hM).1 (hx0.M hM).2 gX9_find_X9_failed rfl (by decide +kernel) ⟨Nat.le_of_ble_eq_true rfl, Nat.le_of_ble_eq_true rfl⟩ rfl (Nat.le_of_ble_eq_true rfl) ⟨(Nat.le_of_ble_eq_true rfl), (Nat.le_of_ble_eq_true rfl)⟩ (c2 := 0) (s2 := 0) rfl rfl (x_failed hx0 M hM 2) (fun v1 L1 f1 hp1 => ?_)
            obtain ⟨rfl, hx1⟩ := hp1
            show gW X vwCl 6 L1 f1 0 0 73 [(5, .null), (4, .null), (3, .int (nI 2)), (0, .ref M), (1, .int (nI pj)), (2, .int (nI qj))] [.int (fA 2)]
            have hc_p : castF S pj 4 = 2 := by unfold castF isO; rw [hk_p] <;> decide
            have hc_q : castF S qj 1 = 1 := by unfold castF isO; rw [hk_q] <;> decide
            have hbf : bthF S pj qj 1 = 2 := by unfold bthF; rw [hc_p, hc_q] <;> decide
            have hE : s_find S (nI pj) (nI qj) = (fA 2, (aSc (thS S) 1 2)) := by
              unfold s_find
              rw [if_pos h4, if_pos h11, hpl_p, hpl_q, hbf, if_pos (show 0 < 2 by decide)] <;> rfl
            exact g_iret hC hR dX9_find_73 ⟨b, congrArg (fun z => some (Value.int (Prod.fst z))) hE.symm, by rw [hE]; exact hx1, xG.rf⟩
          · exfalso; omega
        · have hw_q : wh S qj < S.1 4 := hI.wl hqj hk_q
          have hp0_q : plcF (thS S) b qj = some (b.1 0 (wh S qj)) := plc_k hqj hk_q (by decide)
          refine g_aald hC 5 rfl (hx0.Mp rfl).1 (hx0.Mp rfl).2 (qj) rfl (show qj < 10 by omega) (by decide) dX9_find_27 ?_
          refine g_val (w := .ref (b.1 0 (wh S qj))) (congrArg va_rf hp0_q) ?_
          refine g_S (As := [.ref (b.1 0 (wh S pj)), .ref (b.1 0 (wh S qj))]) (st := []) hC 2 dX9_find_28 gX9_find_X9_lookFault rfl (by decide +kernel) ⟨Nat.le_of_ble_eq_true rfl, Nat.le_of_ble_eq_true rfl⟩ rfl (Nat.le_of_ble_eq_true rfl) ⟨Nat.le_of_ble_eq_true rfl, Nat.le_of_ble_eq_true rfl⟩ (c2 := 0) (s2 := 0) rfl rfl (x_lookFault (some (b.1 0 (wh S pj))) (some (b.1 0 (wh S qj))) 1 1 (Or.inr ⟨_, 0, _, rfl, (hx0.B hw_p rfl), Or.inl ⟨rfl, rfl⟩⟩) (Or.inr ⟨_, 0, _, rfl, (hx0.B hw_q rfl), Or.inl ⟨rfl, rfl⟩⟩)) ?_
          refine g_istore_n (lv' := [(3, .int (nI 2)), (0, .ref M), (1, .int (nI pj)), (2, .int (nI qj))]) hC dX9_find_31 rfl (by decide) rfl ?_
          refine g_aload_n hC dX9_find_32 rfl 1 rfl (Or.inr ⟨_, rfl⟩) ?_
          refine g_get hC (by decide +kernel) rfl (hx0.M hM).1 (hx0.M hM).2 0 (by decide) (by decide +kernel) (Or.inl rfl) rfl dX9_find_33 ?_
          refine g_iload_n hC dX9_find_36 rfl 2 rfl ?_
          refine g_aald hC 5 rfl (hx0.Mp rfl).1 (hx0.Mp rfl).2 (pj) rfl (show pj < 10 by omega) (by decide) dX9_find_37 ?_
          refine g_val (w := .ref (b.1 0 (wh S pj))) (congrArg va_rf hp0_p) ?_
          refine g_S (As := [.ref (b.1 0 (wh S pj))]) (st := []) hC 1 dX9_find_38 gX9_find_X9_asTable rfl (by decide +kernel) ⟨Nat.le_of_ble_eq_true rfl, Nat.le_of_ble_eq_true rfl⟩ rfl (Nat.le_of_ble_eq_true rfl) ⟨Nat.le_of_ble_eq_true rfl, Nat.le_of_ble_eq_true rfl⟩ (c2 := 0) (s2 := 0) rfl rfl (x_asTable (some (b.1 0 (wh S pj))) 1 (Or.inr ⟨_, 0, _, rfl, (hx0.B hw_p rfl), Or.inl ⟨rfl, rfl⟩⟩)) ?_
          refine g_astore (lv' := [(4, .null), (3, .int (nI 2)), (0, .ref M), (1, .int (nI pj)), (2, .int (nI qj))]) hC dX9_find_41 (by decide) rfl (Or.inl rfl) ?_
          refine g_aload_n hC dX9_find_43 rfl 2 rfl (Or.inr ⟨_, rfl⟩) ?_
          refine g_get hC (by decide +kernel) rfl (hx0.M hM).1 (hx0.M hM).2 0 (by decide) (by decide +kernel) (Or.inl rfl) rfl dX9_find_44 ?_
          refine g_iload_n hC dX9_find_47 rfl 4 rfl ?_
          refine g_aald hC 5 rfl (hx0.Mp rfl).1 (hx0.Mp rfl).2 (qj) rfl (show qj < 10 by omega) (by decide) dX9_find_48 ?_
          refine g_val (w := .ref (b.1 0 (wh S qj))) (congrArg va_rf hp0_q) ?_
          refine g_S (As := [.ref (b.1 0 (wh S qj))]) (st := []) hC 1 dX9_find_49 gX9_find_X9_asBytes rfl (by decide +kernel) ⟨Nat.le_of_ble_eq_true rfl, Nat.le_of_ble_eq_true rfl⟩ rfl (Nat.le_of_ble_eq_true rfl) ⟨Nat.le_of_ble_eq_true rfl, Nat.le_of_ble_eq_true rfl⟩ (c2 := 0) (s2 := 0) rfl rfl (x_asBytes (some (b.1 0 (wh S qj))) 1 (Or.inr ⟨_, 0, _, rfl, (hx0.B hw_q rfl), Or.inl ⟨rfl, rfl⟩⟩)) ?_
          refine g_astore (lv' := [(5, .ref (b.1 0 (wh S qj))), (4, .null), (3, .int (nI 2)), (0, .ref M), (1, .int (nI pj)), (2, .int (nI qj))]) hC dX9_find_52 (by decide) rfl (Or.inr ⟨_, rfl⟩) ?_
          refine g_iload_n hC dX9_find_54 rfl 2 rfl ?_
          refine g_ifN_ne (a := 2) (tgt := 68) hC dX9_find_55 (by decide) (by omega) (fun h55 => ?_) (fun h55 => ?_)
          · refine g_aload_n hC dX9_find_68 rfl 3 rfl (Or.inr ⟨_, rfl⟩) ?_
            refine g_iload_n hC dX9_find_69 rfl 2 rfl ?_
            refine g_Vx (As := [.int (nI 2)]) (st := []) hC 1 dX9_find_70 rfl (hx0.M hM).1 (hx0.M hM).2 gX9_find_X9_failed rfl (by decide +kernel) ⟨Nat.le_of_ble_eq_true rfl, Nat.le_of_ble_eq_true rfl⟩ rfl (Nat.le_of_ble_eq_true rfl) ⟨(Nat.le_of_ble_eq_true rfl), (Nat.le_of_ble_eq_true rfl)⟩ (c2 := 0) (s2 := 0) rfl rfl (x_failed hx0 M hM 2) (fun v1 L1 f1 hp1 => ?_)
            obtain ⟨rfl, hx1⟩ := hp1
            show gW X vwCl 6 L1 f1 0 0 73 [(5, .ref (b.1 0 (wh S qj))), (4, .null), (3, .int (nI 2)), (0, .ref M), (1, .int (nI pj)), (2, .int (nI qj))] [.int (fA 2)]
            have hc_p : castF S pj 4 = 2 := by unfold castF isO; rw [hk_p] <;> decide
            have hc_q : castF S qj 1 = 0 := by unfold castF isO; rw [hk_q] <;> decide
            have hbf : bthF S pj qj 1 = 2 := by unfold bthF; rw [hc_p, hc_q] <;> decide
            have hE : s_find S (nI pj) (nI qj) = (fA 2, (aSc (thS S) 1 2)) := by
              unfold s_find
              rw [if_pos h4, if_pos h11, hpl_p, hpl_q, hbf, if_pos (show 0 < 2 by decide)] <;> rfl
            exact g_iret hC hR dX9_find_73 ⟨b, congrArg (fun z => some (Value.int (Prod.fst z))) hE.symm, by rw [hE]; exact hx1, xG.rf⟩
          · exfalso; omega
        · have hw_q : wh S qj < S.1 7 := hI.ws hqj hk_q
          have hp0_q : plcF (thS S) b qj = some (b.1 2 (wh S qj)) := plc_k hqj hk_q (by decide)
          refine g_aald hC 5 rfl (hx0.Mp rfl).1 (hx0.Mp rfl).2 (qj) rfl (show qj < 10 by omega) (by decide) dX9_find_27 ?_
          refine g_val (w := .ref (b.1 2 (wh S qj))) (congrArg va_rf hp0_q) ?_
          refine g_S (As := [.ref (b.1 0 (wh S pj)), .ref (b.1 2 (wh S qj))]) (st := []) hC 2 dX9_find_28 gX9_find_X9_lookFault rfl (by decide +kernel) ⟨Nat.le_of_ble_eq_true rfl, Nat.le_of_ble_eq_true rfl⟩ rfl (Nat.le_of_ble_eq_true rfl) ⟨Nat.le_of_ble_eq_true rfl, Nat.le_of_ble_eq_true rfl⟩ (c2 := 0) (s2 := 0) rfl rfl (x_lookFault (some (b.1 0 (wh S pj))) (some (b.1 2 (wh S qj))) 1 2 (Or.inr ⟨_, 0, _, rfl, (hx0.B hw_p rfl), Or.inl ⟨rfl, rfl⟩⟩) (Or.inr ⟨_, 4, _, rfl, (hx0.G hw_q rfl), Or.inr (Or.inl ⟨rfl, rfl⟩)⟩)) ?_
          refine g_istore_n (lv' := [(3, .int (nI 2)), (0, .ref M), (1, .int (nI pj)), (2, .int (nI qj))]) hC dX9_find_31 rfl (by decide) rfl ?_
          refine g_aload_n hC dX9_find_32 rfl 1 rfl (Or.inr ⟨_, rfl⟩) ?_
          refine g_get hC (by decide +kernel) rfl (hx0.M hM).1 (hx0.M hM).2 0 (by decide) (by decide +kernel) (Or.inl rfl) rfl dX9_find_33 ?_
          refine g_iload_n hC dX9_find_36 rfl 2 rfl ?_
          refine g_aald hC 5 rfl (hx0.Mp rfl).1 (hx0.Mp rfl).2 (pj) rfl (show pj < 10 by omega) (by decide) dX9_find_37 ?_
          refine g_val (w := .ref (b.1 0 (wh S pj))) (congrArg va_rf hp0_p) ?_
          refine g_S (As := [.ref (b.1 0 (wh S pj))]) (st := []) hC 1 dX9_find_38 gX9_find_X9_asTable rfl (by decide +kernel) ⟨Nat.le_of_ble_eq_true rfl, Nat.le_of_ble_eq_true rfl⟩ rfl (Nat.le_of_ble_eq_true rfl) ⟨Nat.le_of_ble_eq_true rfl, Nat.le_of_ble_eq_true rfl⟩ (c2 := 0) (s2 := 0) rfl rfl (x_asTable (some (b.1 0 (wh S pj))) 1 (Or.inr ⟨_, 0, _, rfl, (hx0.B hw_p rfl), Or.inl ⟨rfl, rfl⟩⟩)) ?_
          refine g_astore (lv' := [(4, .null), (3, .int (nI 2)), (0, .ref M), (1, .int (nI pj)), (2, .int (nI qj))]) hC dX9_find_41 (by decide) rfl (Or.inl rfl) ?_
          refine g_aload_n hC dX9_find_43 rfl 2 rfl (Or.inr ⟨_, rfl⟩) ?_
          refine g_get hC (by decide +kernel) rfl (hx0.M hM).1 (hx0.M hM).2 0 (by decide) (by decide +kernel) (Or.inl rfl) rfl dX9_find_44 ?_
          refine g_iload_n hC dX9_find_47 rfl 4 rfl ?_
          refine g_aald hC 5 rfl (hx0.Mp rfl).1 (hx0.Mp rfl).2 (qj) rfl (show qj < 10 by omega) (by decide) dX9_find_48 ?_
          refine g_val (w := .ref (b.1 2 (wh S qj))) (congrArg va_rf hp0_q) ?_
          refine g_S (As := [.ref (b.1 2 (wh S qj))]) (st := []) hC 1 dX9_find_49 gX9_find_X9_asBytes rfl (by decide +kernel) ⟨Nat.le_of_ble_eq_true rfl, Nat.le_of_ble_eq_true rfl⟩ rfl (Nat.le_of_ble_eq_true rfl) ⟨Nat.le_of_ble_eq_true rfl, Nat.le_of_ble_eq_true rfl⟩ (c2 := 0) (s2 := 0) rfl rfl (x_asBytes (some (b.1 2 (wh S qj))) 2 (Or.inr ⟨_, 4, _, rfl, (hx0.G hw_q rfl), Or.inr (Or.inl ⟨rfl, rfl⟩)⟩)) ?_
          refine g_astore (lv' := [(5, .null), (4, .null), (3, .int (nI 2)), (0, .ref M), (1, .int (nI pj)), (2, .int (nI qj))]) hC dX9_find_52 (by decide) rfl (Or.inl rfl) ?_
          refine g_iload_n hC dX9_find_54 rfl 2 rfl ?_
          refine g_ifN_ne (a := 2) (tgt := 68) hC dX9_find_55 (by decide) (by omega) (fun h55 => ?_) (fun h55 => ?_)
          · refine g_aload_n hC dX9_find_68 rfl 3 rfl (Or.inr ⟨_, rfl⟩) ?_
            refine g_iload_n hC dX9_find_69 rfl 2 rfl ?_
            refine g_Vx (As := [.int (nI 2)]) (st := []) hC 1 dX9_find_70 rfl (hx0.M hM).1 (hx0.M hM).2 gX9_find_X9_failed rfl (by decide +kernel) ⟨Nat.le_of_ble_eq_true rfl, Nat.le_of_ble_eq_true rfl⟩ rfl (Nat.le_of_ble_eq_true rfl) ⟨(Nat.le_of_ble_eq_true rfl), (Nat.le_of_ble_eq_true rfl)⟩ (c2 := 0) (s2 := 0) rfl rfl (x_failed hx0 M hM 2) (fun v1 L1 f1 hp1 => ?_)
            obtain ⟨rfl, hx1⟩ := hp1
            show gW X vwCl 6 L1 f1 0 0 73 [(5, .null), (4, .null), (3, .int (nI 2)), (0, .ref M), (1, .int (nI pj)), (2, .int (nI qj))] [.int (fA 2)]
            have hc_p : castF S pj 4 = 2 := by unfold castF isO; rw [hk_p] <;> decide
            have hc_q : castF S qj 1 = 2 := by unfold castF isO; rw [hk_q] <;> decide
            have hbf : bthF S pj qj 1 = 2 := by unfold bthF; rw [hc_p, hc_q] <;> decide
            have hE : s_find S (nI pj) (nI qj) = (fA 2, (aSc (thS S) 1 2)) := by
              unfold s_find
              rw [if_pos h4, if_pos h11, hpl_p, hpl_q, hbf, if_pos (show 0 < 2 by decide)] <;> rfl
            exact g_iret hC hR dX9_find_73 ⟨b, congrArg (fun z => some (Value.int (Prod.fst z))) hE.symm, by rw [hE]; exact hx1, xG.rf⟩
          · exfalso; omega
        · have hw_q : wh S qj < S.1 10 := hI.wr hqj hk_q
          have hp0_q : plcF (thS S) b qj = some (b.1 4 (wh S qj)) := plc_k hqj hk_q (by decide)
          refine g_aald hC 5 rfl (hx0.Mp rfl).1 (hx0.Mp rfl).2 (qj) rfl (show qj < 10 by omega) (by decide) dX9_find_27 ?_
          refine g_val (w := .ref (b.1 4 (wh S qj))) (congrArg va_rf hp0_q) ?_
          refine g_S (As := [.ref (b.1 0 (wh S pj)), .ref (b.1 4 (wh S qj))]) (st := []) hC 2 dX9_find_28 gX9_find_X9_lookFault rfl (by decide +kernel) ⟨Nat.le_of_ble_eq_true rfl, Nat.le_of_ble_eq_true rfl⟩ rfl (Nat.le_of_ble_eq_true rfl) ⟨Nat.le_of_ble_eq_true rfl, Nat.le_of_ble_eq_true rfl⟩ (c2 := 0) (s2 := 0) rfl rfl (x_lookFault (some (b.1 0 (wh S pj))) (some (b.1 4 (wh S qj))) 1 3 (Or.inr ⟨_, 0, _, rfl, (hx0.B hw_p rfl), Or.inl ⟨rfl, rfl⟩⟩) (Or.inr ⟨_, 3, _, rfl, (hx0.W hw_q rfl), Or.inr (Or.inr (Or.inl ⟨rfl, rfl⟩))⟩)) ?_
          refine g_istore_n (lv' := [(3, .int (nI 2)), (0, .ref M), (1, .int (nI pj)), (2, .int (nI qj))]) hC dX9_find_31 rfl (by decide) rfl ?_
          refine g_aload_n hC dX9_find_32 rfl 1 rfl (Or.inr ⟨_, rfl⟩) ?_
          refine g_get hC (by decide +kernel) rfl (hx0.M hM).1 (hx0.M hM).2 0 (by decide) (by decide +kernel) (Or.inl rfl) rfl dX9_find_33 ?_
          refine g_iload_n hC dX9_find_36 rfl 2 rfl ?_
          refine g_aald hC 5 rfl (hx0.Mp rfl).1 (hx0.Mp rfl).2 (pj) rfl (show pj < 10 by omega) (by decide) dX9_find_37 ?_
          refine g_val (w := .ref (b.1 0 (wh S pj))) (congrArg va_rf hp0_p) ?_
          refine g_S (As := [.ref (b.1 0 (wh S pj))]) (st := []) hC 1 dX9_find_38 gX9_find_X9_asTable rfl (by decide +kernel) ⟨Nat.le_of_ble_eq_true rfl, Nat.le_of_ble_eq_true rfl⟩ rfl (Nat.le_of_ble_eq_true rfl) ⟨Nat.le_of_ble_eq_true rfl, Nat.le_of_ble_eq_true rfl⟩ (c2 := 0) (s2 := 0) rfl rfl (x_asTable (some (b.1 0 (wh S pj))) 1 (Or.inr ⟨_, 0, _, rfl, (hx0.B hw_p rfl), Or.inl ⟨rfl, rfl⟩⟩)) ?_
          refine g_astore (lv' := [(4, .null), (3, .int (nI 2)), (0, .ref M), (1, .int (nI pj)), (2, .int (nI qj))]) hC dX9_find_41 (by decide) rfl (Or.inl rfl) ?_
          refine g_aload_n hC dX9_find_43 rfl 2 rfl (Or.inr ⟨_, rfl⟩) ?_
          refine g_get hC (by decide +kernel) rfl (hx0.M hM).1 (hx0.M hM).2 0 (by decide) (by decide +kernel) (Or.inl rfl) rfl dX9_find_44 ?_
          refine g_iload_n hC dX9_find_47 rfl 4 rfl ?_
          refine g_aald hC 5 rfl (hx0.Mp rfl).1 (hx0.Mp rfl).2 (qj) rfl (show qj < 10 by omega) (by decide) dX9_find_48 ?_
          refine g_val (w := .ref (b.1 4 (wh S qj))) (congrArg va_rf hp0_q) ?_
          refine g_S (As := [.ref (b.1 4 (wh S qj))]) (st := []) hC 1 dX9_find_49 gX9_find_X9_asBytes rfl (by decide +kernel) ⟨Nat.le_of_ble_eq_true rfl, Nat.le_of_ble_eq_true rfl⟩ rfl (Nat.le_of_ble_eq_true rfl) ⟨Nat.le_of_ble_eq_true rfl, Nat.le_of_ble_eq_true rfl⟩ (c2 := 0) (s2 := 0) rfl rfl (x_asBytes (some (b.1 4 (wh S qj))) 3 (Or.inr ⟨_, 3, _, rfl, (hx0.W hw_q rfl), Or.inr (Or.inr (Or.inl ⟨rfl, rfl⟩))⟩)) ?_
          refine g_astore (lv' := [(5, .null), (4, .null), (3, .int (nI 2)), (0, .ref M), (1, .int (nI pj)), (2, .int (nI qj))]) hC dX9_find_52 (by decide) rfl (Or.inl rfl) ?_
          refine g_iload_n hC dX9_find_54 rfl 2 rfl ?_
          refine g_ifN_ne (a := 2) (tgt := 68) hC dX9_find_55 (by decide) (by omega) (fun h55 => ?_) (fun h55 => ?_)
          · refine g_aload_n hC dX9_find_68 rfl 3 rfl (Or.inr ⟨_, rfl⟩) ?_
            refine g_iload_n hC dX9_find_69 rfl 2 rfl ?_
            refine g_Vx (As := [.int (nI 2)]) (st := []) hC 1 dX9_find_70 rfl (hx0.M hM).1 (hx0.M hM).2 gX9_find_X9_failed rfl (by decide +kernel) ⟨Nat.le_of_ble_eq_true rfl, Nat.le_of_ble_eq_true rfl⟩ rfl (Nat.le_of_ble_eq_true rfl) ⟨(Nat.le_of_ble_eq_true rfl), (Nat.le_of_ble_eq_true rfl)⟩ (c2 := 0) (s2 := 0) rfl rfl (x_failed hx0 M hM 2) (fun v1 L1 f1 hp1 => ?_)
            obtain ⟨rfl, hx1⟩ := hp1
            show gW X vwCl 6 L1 f1 0 0 73 [(5, .null), (4, .null), (3, .int (nI 2)), (0, .ref M), (1, .int (nI pj)), (2, .int (nI qj))] [.int (fA 2)]
            have hc_p : castF S pj 4 = 2 := by unfold castF isO; rw [hk_p] <;> decide
            have hc_q : castF S qj 1 = 2 := by unfold castF isO; rw [hk_q] <;> decide
            have hbf : bthF S pj qj 1 = 2 := by unfold bthF; rw [hc_p, hc_q] <;> decide
            have hE : s_find S (nI pj) (nI qj) = (fA 2, (aSc (thS S) 1 2)) := by
              unfold s_find
              rw [if_pos h4, if_pos h11, hpl_p, hpl_q, hbf, if_pos (show 0 < 2 by decide)] <;> rfl
            exact g_iret hC hR dX9_find_73 ⟨b, congrArg (fun z => some (Value.int (Prod.fst z))) hE.symm, by rw [hE]; exact hx1, xG.rf⟩
          · exfalso; omega
        · have hw_q : wh S qj < S.1 13 := hI.wt hqj (by omega)
          have hb_q : S.2.1 14 (wh S qj) = 0 := by have := ((hI.2.1 _ hqj).2.2.2.2.2 (by omega)).2; omega
          have hp0_q : plcF (thS S) b qj = some (b.1 6 (wh S qj)) := plc_k hqj hk_q (by decide)
          refine g_aald hC 5 rfl (hx0.Mp rfl).1 (hx0.Mp rfl).2 (qj) rfl (show qj < 10 by omega) (by decide) dX9_find_27 ?_
          refine g_val (w := .ref (b.1 6 (wh S qj))) (congrArg va_rf hp0_q) ?_
          refine g_S (As := [.ref (b.1 0 (wh S pj)), .ref (b.1 6 (wh S qj))]) (st := []) hC 2 dX9_find_28 gX9_find_X9_lookFault rfl (by decide +kernel) ⟨Nat.le_of_ble_eq_true rfl, Nat.le_of_ble_eq_true rfl⟩ rfl (Nat.le_of_ble_eq_true rfl) ⟨Nat.le_of_ble_eq_true rfl, Nat.le_of_ble_eq_true rfl⟩ (c2 := 0) (s2 := 0) rfl rfl (x_lookFault (some (b.1 0 (wh S pj))) (some (b.1 6 (wh S qj))) 1 4 (Or.inr ⟨_, 0, _, rfl, (hx0.B hw_p rfl), Or.inl ⟨rfl, rfl⟩⟩) (Or.inr ⟨_, 5, _, rfl, (hx0.T hw_q rfl hb_q), Or.inr (Or.inr (Or.inr (Or.inl ⟨rfl, rfl⟩)))⟩)) ?_
          refine g_istore_n (lv' := [(3, .int (nI 2)), (0, .ref M), (1, .int (nI pj)), (2, .int (nI qj))]) hC dX9_find_31 rfl (by decide) rfl ?_
          refine g_aload_n hC dX9_find_32 rfl 1 rfl (Or.inr ⟨_, rfl⟩) ?_
          refine g_get hC (by decide +kernel) rfl (hx0.M hM).1 (hx0.M hM).2 0 (by decide) (by decide +kernel) (Or.inl rfl) rfl dX9_find_33 ?_
          refine g_iload_n hC dX9_find_36 rfl 2 rfl ?_
          refine g_aald hC 5 rfl (hx0.Mp rfl).1 (hx0.Mp rfl).2 (pj) rfl (show pj < 10 by omega) (by decide) dX9_find_37 ?_
          refine g_val (w := .ref (b.1 0 (wh S pj))) (congrArg va_rf hp0_p) ?_
          refine g_S (As := [.ref (b.1 0 (wh S pj))]) (st := []) hC 1 dX9_find_38 gX9_find_X9_asTable rfl (by decide +kernel) ⟨Nat.le_of_ble_eq_true rfl, Nat.le_of_ble_eq_true rfl⟩ rfl (Nat.le_of_ble_eq_true rfl) ⟨Nat.le_of_ble_eq_true rfl, Nat.le_of_ble_eq_true rfl⟩ (c2 := 0) (s2 := 0) rfl rfl (x_asTable (some (b.1 0 (wh S pj))) 1 (Or.inr ⟨_, 0, _, rfl, (hx0.B hw_p rfl), Or.inl ⟨rfl, rfl⟩⟩)) ?_
          refine g_astore (lv' := [(4, .null), (3, .int (nI 2)), (0, .ref M), (1, .int (nI pj)), (2, .int (nI qj))]) hC dX9_find_41 (by decide) rfl (Or.inl rfl) ?_
          refine g_aload_n hC dX9_find_43 rfl 2 rfl (Or.inr ⟨_, rfl⟩) ?_
          refine g_get hC (by decide +kernel) rfl (hx0.M hM).1 (hx0.M hM).2 0 (by decide) (by decide +kernel) (Or.inl rfl) rfl dX9_find_44 ?_
          refine g_iload_n hC dX9_find_47 rfl 4 rfl ?_
          refine g_aald hC 5 rfl (hx0.Mp rfl).1 (hx0.Mp rfl).2 (qj) rfl (show qj < 10 by omega) (by decide) dX9_find_48 ?_
          refine g_val (w := .ref (b.1 6 (wh S qj))) (congrArg va_rf hp0_q) ?_
          refine g_S (As := [.ref (b.1 6 (wh S qj))]) (st := []) hC 1 dX9_find_49 gX9_find_X9_asBytes rfl (by decide +kernel) ⟨Nat.le_of_ble_eq_true rfl, Nat.le_of_ble_eq_true rfl⟩ rfl (Nat.le_of_ble_eq_true rfl) ⟨Nat.le_of_ble_eq_true rfl, Nat.le_of_ble_eq_true rfl⟩ (c2 := 0) (s2 := 0) rfl rfl (x_asBytes (some (b.1 6 (wh S qj))) 4 (Or.inr ⟨_, 5, _, rfl, (hx0.T hw_q rfl hb_q), Or.inr (Or.inr (Or.inr (Or.inl ⟨rfl, rfl⟩)))⟩)) ?_
          refine g_astore (lv' := [(5, .null), (4, .null), (3, .int (nI 2)), (0, .ref M), (1, .int (nI pj)), (2, .int (nI qj))]) hC dX9_find_52 (by decide) rfl (Or.inl rfl) ?_
          refine g_iload_n hC dX9_find_54 rfl 2 rfl ?_
          refine g_ifN_ne (a := 2) (tgt := 68) hC dX9_find_55 (by decide) (by omega) (fun h55 => ?_) (fun h55 => ?_)
          · refine g_aload_n hC dX9_find_68 rfl 3 rfl (Or.inr ⟨_, rfl⟩) ?_
            refine g_iload_n hC dX9_find_69 rfl 2 rfl ?_
            refine g_Vx (As := [.int (nI 2)]) (st := []) hC 1 dX9_find_70 rfl (hx0.M hM).1 (hx0.M hM).2 gX9_find_X9_failed rfl (by decide +kernel) ⟨Nat.le_of_ble_eq_true rfl, Nat.le_of_ble_eq_true rfl⟩ rfl (Nat.le_of_ble_eq_true rfl) ⟨(Nat.le_of_ble_eq_true rfl), (Nat.le_of_ble_eq_true rfl)⟩ (c2 := 0) (s2 := 0) rfl rfl (x_failed hx0 M hM 2) (fun v1 L1 f1 hp1 => ?_)
            obtain ⟨rfl, hx1⟩ := hp1
            show gW X vwCl 6 L1 f1 0 0 73 [(5, .null), (4, .null), (3, .int (nI 2)), (0, .ref M), (1, .int (nI pj)), (2, .int (nI qj))] [.int (fA 2)]
            have hc_p : castF S pj 4 = 2 := by unfold castF isO; rw [hk_p] <;> decide
            have hc_q : castF S qj 1 = 2 := by unfold castF isO; rw [hk_q] <;> decide
            have hbf : bthF S pj qj 1 = 2 := by unfold bthF; rw [hc_p, hc_q] <;> decide
            have hE : s_find S (nI pj) (nI qj) = (fA 2, (aSc (thS S) 1 2)) := by
              unfold s_find
              rw [if_pos h4, if_pos h11, hpl_p, hpl_q, hbf, if_pos (show 0 < 2 by decide)] <;> rfl
            exact g_iret hC hR dX9_find_73 ⟨b, congrArg (fun z => some (Value.int (Prod.fst z))) hE.symm, by rw [hE]; exact hx1, xG.rf⟩
          · exfalso; omega
        · have hw_q : wh S qj < S.1 13 := hI.wt hqj (by omega)
          have hb_q : S.2.1 14 (wh S qj) ≠ 0 := by have := ((hI.2.1 _ hqj).2.2.2.2.2 (by omega)).2; omega
          have hp0_q : plcF (thS S) b qj = some (b.1 6 (wh S qj)) := plc_k hqj hk_q (by decide)
          refine g_aald hC 5 rfl (hx0.Mp rfl).1 (hx0.Mp rfl).2 (qj) rfl (show qj < 10 by omega) (by decide) dX9_find_27 ?_
          refine g_val (w := .ref (b.1 6 (wh S qj))) (congrArg va_rf hp0_q) ?_
          refine g_S (As := [.ref (b.1 0 (wh S pj)), .ref (b.1 6 (wh S qj))]) (st := []) hC 2 dX9_find_28 gX9_find_X9_lookFault rfl (by decide +kernel) ⟨Nat.le_of_ble_eq_true rfl, Nat.le_of_ble_eq_true rfl⟩ rfl (Nat.le_of_ble_eq_true rfl) ⟨Nat.le_of_ble_eq_true rfl, Nat.le_of_ble_eq_true rfl⟩ (c2 := 0) (s2 := 0) rfl rfl (x_lookFault (some (b.1 0 (wh S pj))) (some (b.1 6 (wh S qj))) 1 5 (Or.inr ⟨_, 0, _, rfl, (hx0.B hw_p rfl), Or.inl ⟨rfl, rfl⟩⟩) (Or.inr ⟨_, 1, _, rfl, (hx0.K hw_q rfl hb_q), Or.inr (Or.inr (Or.inr (Or.inr ⟨rfl, rfl⟩)))⟩)) ?_
          refine g_istore_n (lv' := [(3, .int (nI 2)), (0, .ref M), (1, .int (nI pj)), (2, .int (nI qj))]) hC dX9_find_31 rfl (by decide) rfl ?_
          refine g_aload_n hC dX9_find_32 rfl 1 rfl (Or.inr ⟨_, rfl⟩) ?_
          refine g_get hC (by decide +kernel) rfl (hx0.M hM).1 (hx0.M hM).2 0 (by decide) (by decide +kernel) (Or.inl rfl) rfl dX9_find_33 ?_
          refine g_iload_n hC dX9_find_36 rfl 2 rfl ?_
          refine g_aald hC 5 rfl (hx0.Mp rfl).1 (hx0.Mp rfl).2 (pj) rfl (show pj < 10 by omega) (by decide) dX9_find_37 ?_
          refine g_val (w := .ref (b.1 0 (wh S pj))) (congrArg va_rf hp0_p) ?_
          refine g_S (As := [.ref (b.1 0 (wh S pj))]) (st := []) hC 1 dX9_find_38 gX9_find_X9_asTable rfl (by decide +kernel) ⟨Nat.le_of_ble_eq_true rfl, Nat.le_of_ble_eq_true rfl⟩ rfl (Nat.le_of_ble_eq_true rfl) ⟨Nat.le_of_ble_eq_true rfl, Nat.le_of_ble_eq_true rfl⟩ (c2 := 0) (s2 := 0) rfl rfl (x_asTable (some (b.1 0 (wh S pj))) 1 (Or.inr ⟨_, 0, _, rfl, (hx0.B hw_p rfl), Or.inl ⟨rfl, rfl⟩⟩)) ?_
          refine g_astore (lv' := [(4, .null), (3, .int (nI 2)), (0, .ref M), (1, .int (nI pj)), (2, .int (nI qj))]) hC dX9_find_41 (by decide) rfl (Or.inl rfl) ?_
          refine g_aload_n hC dX9_find_43 rfl 2 rfl (Or.inr ⟨_, rfl⟩) ?_
          refine g_get hC (by decide +kernel) rfl (hx0.M hM).1 (hx0.M hM).2 0 (by decide) (by decide +kernel) (Or.inl rfl) rfl dX9_find_44 ?_
          refine g_iload_n hC dX9_find_47 rfl 4 rfl ?_
          refine g_aald hC 5 rfl (hx0.Mp rfl).1 (hx0.Mp rfl).2 (qj) rfl (show qj < 10 by omega) (by decide) dX9_find_48 ?_
          refine g_val (w := .ref (b.1 6 (wh S qj))) (congrArg va_rf hp0_q) ?_
          refine g_S (As := [.ref (b.1 6 (wh S qj))]) (st := []) hC 1 dX9_find_49 gX9_find_X9_asBytes rfl (by decide +kernel) ⟨Nat.le_of_ble_eq_true rfl, Nat.le_of_ble_eq_true rfl⟩ rfl (Nat.le_of_ble_eq_true rfl) ⟨Nat.le_of_ble_eq_true rfl, Nat.le_of_ble_eq_true rfl⟩ (c2 := 0) (s2 := 0) rfl rfl (x_asBytes (some (b.1 6 (wh S qj))) 5 (Or.inr ⟨_, 1, _, rfl, (hx0.K hw_q rfl hb_q), Or.inr (Or.inr (Or.inr (Or.inr ⟨rfl, rfl⟩)))⟩)) ?_
          refine g_astore (lv' := [(5, .null), (4, .null), (3, .int (nI 2)), (0, .ref M), (1, .int (nI pj)), (2, .int (nI qj))]) hC dX9_find_52 (by decide) rfl (Or.inl rfl) ?_
          refine g_iload_n hC dX9_find_54 rfl 2 rfl ?_
          refine g_ifN_ne (a := 2) (tgt := 68) hC dX9_find_55 (by decide) (by omega) (fun h55 => ?_) (fun h55 => ?_)
          · refine g_aload_n hC dX9_find_68 rfl 3 rfl (Or.inr ⟨_, rfl⟩) ?_
            refine g_iload_n hC dX9_find_69 rfl 2 rfl ?_
            refine g_Vx (As := [.int (nI 2)]) (st := []) hC 1 dX9_find_70 rfl (hx0.M hM).1 (hx0.M hM).2 gX9_find_X9_failed rfl (by decide +kernel) ⟨Nat.le_of_ble_eq_true rfl, Nat.le_of_ble_eq_true rfl⟩ rfl (Nat.le_of_ble_eq_true rfl) ⟨(Nat.le_of_ble_eq_true rfl), (Nat.le_of_ble_eq_true rfl)⟩ (c2 := 0) (s2 := 0) rfl rfl (x_failed hx0 M hM 2) (fun v1 L1 f1 hp1 => ?_)
            obtain ⟨rfl, hx1⟩ := hp1
            show gW X vwCl 6 L1 f1 0 0 73 [(5, .null), (4, .null), (3, .int (nI 2)), (0, .ref M), (1, .int (nI pj)), (2, .int (nI qj))] [.int (fA 2)]
            have hc_p : castF S pj 4 = 2 := by unfold castF isO; rw [hk_p] <;> decide
            have hc_q : castF S qj 1 = 2 := by unfold castF isO; rw [hk_q] <;> decide
            have hbf : bthF S pj qj 1 = 2 := by unfold bthF; rw [hc_p, hc_q] <;> decide
            have hE : s_find S (nI pj) (nI qj) = (fA 2, (aSc (thS S) 1 2)) := by
              unfold s_find
              rw [if_pos h4, if_pos h11, hpl_p, hpl_q, hbf, if_pos (show 0 < 2 by decide)] <;> rfl
            exact g_iret hC hR dX9_find_73 ⟨b, congrArg (fun z => some (Value.int (Prod.fst z))) hE.symm, by rw [hE]; exact hx1, xG.rf⟩
          · exfalso; omega
      · have hw_p : wh S pj < S.1 7 := hI.ws hpj hk_p
        have hp0_p : plcF (thS S) b pj = some (b.1 2 (wh S pj)) := plc_k hpj hk_p (by decide)
        refine g_aald hC 5 rfl (hx0.Mp rfl).1 (hx0.Mp rfl).2 (pj) rfl (show pj < 10 by omega) (by decide) dX9_find_21 ?_
        refine g_val (w := .ref (b.1 2 (wh S pj))) (congrArg va_rf hp0_p) ?_
        refine g_aload_n hC dX9_find_22 rfl 0 rfl (Or.inr ⟨_, rfl⟩) ?_
        refine g_get hC (by decide +kernel) rfl (hx0.M hM).1 (hx0.M hM).2 0 (by decide) (by decide +kernel) (Or.inl rfl) rfl dX9_find_23 ?_
        refine g_iload_n hC dX9_find_26 rfl 2 rfl ?_
        have h5_q := hI.k5 hqj
        rcases (show kd S qj = 0 ∨ kd S qj = 1 ∨ kd S qj = 2 ∨ kd S qj = 3 ∨ kd S qj = 4 ∨ kd S qj = 5 by omega) with hk_q | hk_q | hk_q | hk_q | hk_q | hk_q
        · have hp0_q : plcF (thS S) b qj = none := plc_0 hqj hk_q
          refine g_aald hC 5 rfl (hx0.Mp rfl).1 (hx0.Mp rfl).2 (qj) rfl (show qj < 10 by omega) (by decide) dX9_find_27 ?_
          refine g_val (w := .null) (congrArg va_rf hp0_q) ?_
          refine g_S (As := [.ref (b.1 2 (wh S pj)), .null]) (st := []) hC 2 dX9_find_28 gX9_find_X9_lookFault rfl (by decide +kernel) ⟨Nat.le_of_ble_eq_true rfl, Nat.le_of_ble_eq_true rfl⟩ rfl (Nat.le_of_ble_eq_true rfl) ⟨Nat.le_of_ble_eq_true rfl, Nat.le_of_ble_eq_true rfl⟩ (c2 := 0) (s2 := 0) rfl rfl (x_lookFault (some (b.1 2 (wh S pj))) none 2 0 (Or.inr ⟨_, 4, _, rfl, (hx0.G hw_p rfl), Or.inr (Or.inl ⟨rfl, rfl⟩)⟩) (Or.inl ⟨rfl, rfl⟩)) ?_
          refine g_istore_n (lv' := [(3, .int (nI 2)), (0, .ref M), (1, .int (nI pj)), (2, .int (nI qj))]) hC dX9_find_31 rfl (by decide) rfl ?_
          refine g_aload_n hC dX9_find_32 rfl 1 rfl (Or.inr ⟨_, rfl⟩) ?_
          refine g_get hC (by decide +kernel) rfl (hx0.M hM).1 (hx0.M hM).2 0 (by decide) (by decide +kernel) (Or.inl rfl) rfl dX9_find_33 ?_
          refine g_iload_n hC dX9_find_36 rfl 2 rfl ?_
          refine g_aald hC 5 rfl (hx0.Mp rfl).1 (hx0.Mp rfl).2 (pj) rfl (show pj < 10 by omega) (by decide) dX9_find_37 ?_
          refine g_val (w := .ref (b.1 2 (wh S pj))) (congrArg va_rf hp0_p) ?_
          refine g_S (As := [.ref (b.1 2 (wh S pj))]) (st := []) hC 1 dX9_find_38 gX9_find_X9_asTable rfl (by decide +kernel) ⟨Nat.le_of_ble_eq_true rfl, Nat.le_of_ble_eq_true rfl⟩ rfl (Nat.le_of_ble_eq_true rfl) ⟨Nat.le_of_ble_eq_true rfl, Nat.le_of_ble_eq_true rfl⟩ (c2 := 0) (s2 := 0) rfl rfl (x_asTable (some (b.1 2 (wh S pj))) 2 (Or.inr ⟨_, 4, _, rfl, (hx0.G hw_p rfl), Or.inr (Or.inl ⟨rfl, rfl⟩)⟩)) ?_
          refine g_astore (lv' := [(4, .null), (3, .int (nI 2)), (0, .ref M), (1, .int (nI pj)), (2, .int (nI qj))]) hC dX9_find_41 (by decide) rfl (Or.inl rfl) ?_
          refine g_aload_n hC dX9_find_43 rfl 2 rfl (Or.inr ⟨_, rfl⟩) ?_
          refine g_get hC (by decide +kernel) rfl (hx0.M hM).1 (hx0.M hM).2 0 (by decide) (by decide +kernel) (Or.inl rfl) rfl dX9_find_44 ?_
          refine g_iload_n hC dX9_find_47 rfl 4 rfl ?_
          refine g_aald hC 5 rfl (hx0.Mp rfl).1 (hx0.Mp rfl).2 (qj) rfl (show qj < 10 by omega) (by decide) dX9_find_48 ?_
          refine g_val (w := .null) (congrArg va_rf hp0_q) ?_
          refine g_S (As := [.null]) (st := []) hC 1 dX9_find_49 gX9_find_X9_asBytes rfl (by decide +kernel) ⟨Nat.le_of_ble_eq_true rfl, Nat.le_of_ble_eq_true rfl⟩ rfl (Nat.le_of_ble_eq_true rfl) ⟨Nat.le_of_ble_eq_true rfl, Nat.le_of_ble_eq_true rfl⟩ (c2 := 0) (s2 := 0) rfl rfl (x_asBytes none 0 (Or.inl ⟨rfl, rfl⟩)) ?_
          refine g_astore (lv' := [(5, .null), (4, .null), (3, .int (nI 2)), (0, .ref M), (1, .int (nI pj)), (2, .int (nI qj))]) hC dX9_find_52 (by decide) rfl (Or.inl rfl) ?_
          refine g_iload_n hC dX9_find_54 rfl 2 rfl ?_
          refine g_ifN_ne (a := 2) (tgt := 68) hC dX9_find_55 (by decide) (by omega) (fun h55 => ?_) (fun h55 => ?_)
          · refine g_aload_n hC dX9_find_68 rfl 3 rfl (Or.inr ⟨_, rfl⟩) ?_
            refine g_iload_n hC dX9_find_69 rfl 2 rfl ?_
            refine g_Vx (As := [.int (nI 2)]) (st := []) hC 1 dX9_find_70 rfl (hx0.M hM).1 (hx0.M hM).2 gX9_find_X9_failed rfl (by decide +kernel) ⟨Nat.le_of_ble_eq_true rfl, Nat.le_of_ble_eq_true rfl⟩ rfl (Nat.le_of_ble_eq_true rfl) ⟨(Nat.le_of_ble_eq_true rfl), (Nat.le_of_ble_eq_true rfl)⟩ (c2 := 0) (s2 := 0) rfl rfl (x_failed hx0 M hM 2) (fun v1 L1 f1 hp1 => ?_)
            obtain ⟨rfl, hx1⟩ := hp1
            show gW X vwCl 6 L1 f1 0 0 73 [(5, .null), (4, .null), (3, .int (nI 2)), (0, .ref M), (1, .int (nI pj)), (2, .int (nI qj))] [.int (fA 2)]
            have hc_p : castF S pj 4 = 2 := by unfold castF isO; rw [hk_p] <;> decide
            have hc_q : castF S qj 1 = 1 := by unfold castF isO; rw [hk_q] <;> decide
            have hbf : bthF S pj qj 1 = 2 := by unfold bthF; rw [hc_p, hc_q] <;> decide
            have hE : s_find S (nI pj) (nI qj) = (fA 2, (aSc (thS S) 1 2)) := by
              unfold s_find
              rw [if_pos h4, if_pos h11, hpl_p, hpl_q, hbf, if_pos (show 0 < 2 by decide)] <;> rfl
            exact g_iret hC hR dX9_find_73 ⟨b, congrArg (fun z => some (Value.int (Prod.fst z))) hE.symm, by rw [hE]; exact hx1, xG.rf⟩
          · exfalso; omega
        · have hw_q : wh S qj < S.1 4 := hI.wl hqj hk_q
          have hp0_q : plcF (thS S) b qj = some (b.1 0 (wh S qj)) := plc_k hqj hk_q (by decide)
          refine g_aald hC 5 rfl (hx0.Mp rfl).1 (hx0.Mp rfl).2 (qj) rfl (show qj < 10 by omega) (by decide) dX9_find_27 ?_
          refine g_val (w := .ref (b.1 0 (wh S qj))) (congrArg va_rf hp0_q) ?_
          refine g_S (As := [.ref (b.1 2 (wh S pj)), .ref (b.1 0 (wh S qj))]) (st := []) hC 2 dX9_find_28 gX9_find_X9_lookFault rfl (by decide +kernel) ⟨Nat.le_of_ble_eq_true rfl, Nat.le_of_ble_eq_true rfl⟩ rfl (Nat.le_of_ble_eq_true rfl) ⟨Nat.le_of_ble_eq_true rfl, Nat.le_of_ble_eq_true rfl⟩ (c2 := 0) (s2 := 0) rfl rfl (x_lookFault (some (b.1 2 (wh S pj))) (some (b.1 0 (wh S qj))) 2 1 (Or.inr ⟨_, 4, _, rfl, (hx0.G hw_p rfl), Or.inr (Or.inl ⟨rfl, rfl⟩)⟩) (Or.inr ⟨_, 0, _, rfl, (hx0.B hw_q rfl), Or.inl ⟨rfl, rfl⟩⟩)) ?_
          refine g_istore_n (lv' := [(3, .int (nI 2)), (0, .ref M), (1, .int (nI pj)), (2, .int (nI qj))]) hC dX9_find_31 rfl (by decide) rfl ?_
          refine g_aload_n hC dX9_find_32 rfl 1 rfl (Or.inr ⟨_, rfl⟩) ?_
          refine g_get hC (by decide +kernel) rfl (hx0.M hM).1 (hx0.M hM).2 0 (by decide) (by decide +kernel) (Or.inl rfl) rfl dX9_find_33 ?_
          refine g_iload_n hC dX9_find_36 rfl 2 rfl ?_
          refine g_aald hC 5 rfl (hx0.Mp rfl).1 (hx0.Mp rfl).2 (pj) rfl (show pj < 10 by omega) (by decide) dX9_find_37 ?_
          refine g_val (w := .ref (b.1 2 (wh S pj))) (congrArg va_rf hp0_p) ?_
          refine g_S (As := [.ref (b.1 2 (wh S pj))]) (st := []) hC 1 dX9_find_38 gX9_find_X9_asTable rfl (by decide +kernel) ⟨Nat.le_of_ble_eq_true rfl, Nat.le_of_ble_eq_true rfl⟩ rfl (Nat.le_of_ble_eq_true rfl) ⟨Nat.le_of_ble_eq_true rfl, Nat.le_of_ble_eq_true rfl⟩ (c2 := 0) (s2 := 0) rfl rfl (x_asTable (some (b.1 2 (wh S pj))) 2 (Or.inr ⟨_, 4, _, rfl, (hx0.G hw_p rfl), Or.inr (Or.inl ⟨rfl, rfl⟩)⟩)) ?_
          refine g_astore (lv' := [(4, .null), (3, .int (nI 2)), (0, .ref M), (1, .int (nI pj)), (2, .int (nI qj))]) hC dX9_find_41 (by decide) rfl (Or.inl rfl) ?_
          refine g_aload_n hC dX9_find_43 rfl 2 rfl (Or.inr ⟨_, rfl⟩) ?_
          refine g_get hC (by decide +kernel) rfl (hx0.M hM).1 (hx0.M hM).2 0 (by decide) (by decide +kernel) (Or.inl rfl) rfl dX9_find_44 ?_
          refine g_iload_n hC dX9_find_47 rfl 4 rfl ?_
          refine g_aald hC 5 rfl (hx0.Mp rfl).1 (hx0.Mp rfl).2 (qj) rfl (show qj < 10 by omega) (by decide) dX9_find_48 ?_
          refine g_val (w := .ref (b.1 0 (wh S qj))) (congrArg va_rf hp0_q) ?_
          refine g_S (As := [.ref (b.1 0 (wh S qj))]) (st := []) hC 1 dX9_find_49 gX9_find_X9_asBytes rfl (by decide +kernel) ⟨Nat.le_of_ble_eq_true rfl, Nat.le_of_ble_eq_true rfl⟩ rfl (Nat.le_of_ble_eq_true rfl) ⟨Nat.le_of_ble_eq_true rfl, Nat.le_of_ble_eq_true rfl⟩ (c2 := 0) (s2 := 0) rfl rfl (x_asBytes (some (b.1 0 (wh S qj))) 1 (Or.inr ⟨_, 0, _, rfl, (hx0.B hw_q rfl), Or.inl ⟨rfl, rfl⟩⟩)) ?_
          refine g_astore (lv' := [(5, .ref (b.1 0 (wh S qj))), (4, .null), (3, .int (nI 2)), (0, .ref M), (1, .int (nI pj)), (2, .int (nI qj))]) hC dX9_find_52 (by decide) rfl (Or.inr ⟨_, rfl⟩) ?_
          refine g_iload_n hC dX9_find_54 rfl 2 rfl ?_
          refine g_ifN_ne (a := 2) (tgt := 68) hC dX9_find_55 (by decide) (by omega) (fun h55 => ?_) (fun h55 => ?_)
          · refine g_aload_n hC dX9_find_68 rfl 3 rfl (Or.inr ⟨_, rfl⟩) ?_
            refine g_iload_n hC dX9_find_69 rfl 2 rfl ?_
            refine g_Vx (As := [.int (nI 2)]) (st := []) hC 1 dX9_find_70 rfl (hx0.M hM).1 (hx0.M hM).2 gX9_find_X9_failed rfl (by decide +kernel) ⟨Nat.le_of_ble_eq_true rfl, Nat.le_of_ble_eq_true rfl⟩ rfl (Nat.le_of_ble_eq_true rfl) ⟨(Nat.le_of_ble_eq_true rfl), (Nat.le_of_ble_eq_true rfl)⟩ (c2 := 0) (s2 := 0) rfl rfl (x_failed hx0 M hM 2) (fun v1 L1 f1 hp1 => ?_)
            obtain ⟨rfl, hx1⟩ := hp1
            show gW X vwCl 6 L1 f1 0 0 73 [(5, .ref (b.1 0 (wh S qj))), (4, .null), (3, .int (nI 2)), (0, .ref M), (1, .int (nI pj)), (2, .int (nI qj))] [.int (fA 2)]
            have hc_p : castF S pj 4 = 2 := by unfold castF isO; rw [hk_p] <;> decide
            have hc_q : castF S qj 1 = 0 := by unfold castF isO; rw [hk_q] <;> decide
            have hbf : bthF S pj qj 1 = 2 := by unfold bthF; rw [hc_p, hc_q] <;> decide
            have hE : s_find S (nI pj) (nI qj) = (fA 2, (aSc (thS S) 1 2)) := by
              unfold s_find
              rw [if_pos h4, if_pos h11, hpl_p, hpl_q, hbf, if_pos (show 0 < 2 by decide)] <;> rfl
            exact g_iret hC hR dX9_find_73 ⟨b, congrArg (fun z => some (Value.int (Prod.fst z))) hE.symm, by rw [hE]; exact hx1, xG.rf⟩
          · exfalso; omega
        · have hw_q : wh S qj < S.1 7 := hI.ws hqj hk_q
          have hp0_q : plcF (thS S) b qj = some (b.1 2 (wh S qj)) := plc_k hqj hk_q (by decide)
          refine g_aald hC 5 rfl (hx0.Mp rfl).1 (hx0.Mp rfl).2 (qj) rfl (show qj < 10 by omega) (by decide) dX9_find_27 ?_
          refine g_val (w := .ref (b.1 2 (wh S qj))) (congrArg va_rf hp0_q) ?_
          refine g_S (As := [.ref (b.1 2 (wh S pj)), .ref (b.1 2 (wh S qj))]) (st := []) hC 2 dX9_find_28 gX9_find_X9_lookFault rfl (by decide +kernel) ⟨Nat.le_of_ble_eq_true rfl, Nat.le_of_ble_eq_true rfl⟩ rfl (Nat.le_of_ble_eq_true rfl) ⟨Nat.le_of_ble_eq_true rfl, Nat.le_of_ble_eq_true rfl⟩ (c2 := 0) (s2 := 0) rfl rfl (x_lookFault (some (b.1 2 (wh S pj))) (some (b.1 2 (wh S qj))) 2 2 (Or.inr ⟨_, 4, _, rfl, (hx0.G hw_p rfl), Or.inr (Or.inl ⟨rfl, rfl⟩)⟩) (Or.inr ⟨_, 4, _, rfl, (hx0.G hw_q rfl), Or.inr (Or.inl ⟨rfl, rfl⟩)⟩)) ?_
          refine g_istore_n (lv' := [(3, .int (nI 2)), (0, .ref M), (1, .int (nI pj)), (2, .int (nI qj))]) hC dX9_find_31 rfl (by decide) rfl ?_
          refine g_aload_n hC dX9_find_32 rfl 1 rfl (Or.inr ⟨_, rfl⟩) ?_
          refine g_get hC (by decide +kernel) rfl (hx0.M hM).1 (hx0.M hM).2 0 (by decide) (by decide +kernel) (Or.inl rfl) rfl dX9_find_33 ?_
          refine g_iload_n hC dX9_find_36 rfl 2 rfl ?_
          refine g_aald hC 5 rfl (hx0.Mp rfl).1 (hx0.Mp rfl).2 (pj) rfl (show pj < 10 by omega) (by decide) dX9_find_37 ?_
          refine g_val (w := .ref (b.1 2 (wh S pj))) (congrArg va_rf hp0_p) ?_
          refine g_S (As := [.ref (b.1 2 (wh S pj))]) (st := []) hC 1 dX9_find_38 gX9_find_X9_asTable rfl (by decide +kernel) ⟨Nat.le_of_ble_eq_true rfl, Nat.le_of_ble_eq_true rfl⟩ rfl (Nat.le_of_ble_eq_true rfl) ⟨Nat.le_of_ble_eq_true rfl, Nat.le_of_ble_eq_true rfl⟩ (c2 := 0) (s2 := 0) rfl rfl (x_asTable (some (b.1 2 (wh S pj))) 2 (Or.inr ⟨_, 4, _, rfl, (hx0.G hw_p rfl), Or.inr (Or.inl ⟨rfl, rfl⟩)⟩)) ?_
          refine g_astore (lv' := [(4, .null), (3, .int (nI 2)), (0, .ref M), (1, .int (nI pj)), (2, .int (nI qj))]) hC dX9_find_41 (by decide) rfl (Or.inl rfl) ?_
          refine g_aload_n hC dX9_find_43 rfl 2 rfl (Or.inr ⟨_, rfl⟩) ?_
          refine g_get hC (by decide +kernel) rfl (hx0.M hM).1 (hx0.M hM).2 0 (by decide) (by decide +kernel) (Or.inl rfl) rfl dX9_find_44 ?_
          refine g_iload_n hC dX9_find_47 rfl 4 rfl ?_
          refine g_aald hC 5 rfl (hx0.Mp rfl).1 (hx0.Mp rfl).2 (qj) rfl (show qj < 10 by omega) (by decide) dX9_find_48 ?_
          refine g_val (w := .ref (b.1 2 (wh S qj))) (congrArg va_rf hp0_q) ?_
          refine g_S (As := [.ref (b.1 2 (wh S qj))]) (st := []) hC 1 dX9_find_49 gX9_find_X9_asBytes rfl (by decide +kernel) ⟨Nat.le_of_ble_eq_true rfl, Nat.le_of_ble_eq_true rfl⟩ rfl (Nat.le_of_ble_eq_true rfl) ⟨Nat.le_of_ble_eq_true rfl, Nat.le_of_ble_eq_true rfl⟩ (c2 := 0) (s2 := 0) rfl rfl (x_asBytes (some (b.1 2 (wh S qj))) 2 (Or.inr ⟨_, 4, _, rfl, (hx0.G hw_q rfl), Or.inr (Or.inl ⟨rfl, rfl⟩)⟩)) ?_
          refine g_astore (lv' := [(5, .null), (4, .null), (3, .int (nI 2)), (0, .ref M), (1, .int (nI pj)), (2, .int (nI qj))]) hC dX9_find_52 (by decide) rfl (Or.inl rfl) ?_
          refine g_iload_n hC dX9_find_54 rfl 2 rfl ?_
          refine g_ifN_ne (a := 2) (tgt := 68) hC dX9_find_55 (by decide) (by omega) (fun h55 => ?_) (fun h55 => ?_)
          · refine g_aload_n hC dX9_find_68 rfl 3 rfl (Or.inr ⟨_, rfl⟩) ?_
            refine g_iload_n hC dX9_find_69 rfl 2 rfl ?_
            refine g_Vx (As := [.int (nI 2)]) (st := []) hC 1 dX9_find_70 rfl (hx0.M hM).1 (hx0.M hM).2 gX9_find_X9_failed rfl (by decide +kernel) ⟨Nat.le_of_ble_eq_true rfl, Nat.le_of_ble_eq_true rfl⟩ rfl (Nat.le_of_ble_eq_true rfl) ⟨(Nat.le_of_ble_eq_true rfl), (Nat.le_of_ble_eq_true rfl)⟩ (c2 := 0) (s2 := 0) rfl rfl (x_failed hx0 M hM 2) (fun v1 L1 f1 hp1 => ?_)
            obtain ⟨rfl, hx1⟩ := hp1
            show gW X vwCl 6 L1 f1 0 0 73 [(5, .null), (4, .null), (3, .int (nI 2)), (0, .ref M), (1, .int (nI pj)), (2, .int (nI qj))] [.int (fA 2)]
            have hc_p : castF S pj 4 = 2 := by unfold castF isO; rw [hk_p] <;> decide
            have hc_q : castF S qj 1 = 2 := by unfold castF isO; rw [hk_q] <;> decide
            have hbf : bthF S pj qj 1 = 2 := by unfold bthF; rw [hc_p, hc_q] <;> decide
            have hE : s_find S (nI pj) (nI qj) = (fA 2, (aSc (thS S) 1 2)) := by
              unfold s_find
              rw [if_pos h4, if_pos h11, hpl_p, hpl_q, hbf, if_pos (show 0 < 2 by decide)] <;> rfl
            exact g_iret hC hR dX9_find_73 ⟨b, congrArg (fun z => some (Value.int (Prod.fst z))) hE.symm, by rw [hE]; exact hx1, xG.rf⟩
          · exfalso; omega
        · have hw_q : wh S qj < S.1 10 := hI.wr hqj hk_q
          have hp0_q : plcF (thS S) b qj = some (b.1 4 (wh S qj)) := plc_k hqj hk_q (by decide)
          refine g_aald hC 5 rfl (hx0.Mp rfl).1 (hx0.Mp rfl).2 (qj) rfl (show qj < 10 by omega) (by decide) dX9_find_27 ?_
          refine g_val (w := .ref (b.1 4 (wh S qj))) (congrArg va_rf hp0_q) ?_
          refine g_S (As := [.ref (b.1 2 (wh S pj)), .ref (b.1 4 (wh S qj))]) (st := []) hC 2 dX9_find_28 gX9_find_X9_lookFault rfl (by decide +kernel) ⟨Nat.le_of_ble_eq_true rfl, Nat.le_of_ble_eq_true rfl⟩ rfl (Nat.le_of_ble_eq_true rfl) ⟨Nat.le_of_ble_eq_true rfl, Nat.le_of_ble_eq_true rfl⟩ (c2 := 0) (s2 := 0) rfl rfl (x_lookFault (some (b.1 2 (wh S pj))) (some (b.1 4 (wh S qj))) 2 3 (Or.inr ⟨_, 4, _, rfl, (hx0.G hw_p rfl), Or.inr (Or.inl ⟨rfl, rfl⟩)⟩) (Or.inr ⟨_, 3, _, rfl, (hx0.W hw_q rfl), Or.inr (Or.inr (Or.inl ⟨rfl, rfl⟩))⟩)) ?_
          refine g_istore_n (lv' := [(3, .int (nI 2)), (0, .ref M), (1, .int (nI pj)), (2, .int (nI qj))]) hC dX9_find_31 rfl (by decide) rfl ?_
          refine g_aload_n hC dX9_find_32 rfl 1 rfl (Or.inr ⟨_, rfl⟩) ?_
          refine g_get hC (by decide +kernel) rfl (hx0.M hM).1 (hx0.M hM).2 0 (by decide) (by decide +kernel) (Or.inl rfl) rfl dX9_find_33 ?_
          refine g_iload_n hC dX9_find_36 rfl 2 rfl ?_
          refine g_aald hC 5 rfl (hx0.Mp rfl).1 (hx0.Mp rfl).2 (pj) rfl (show pj < 10 by omega) (by decide) dX9_find_37 ?_
          refine g_val (w := .ref (b.1 2 (wh S pj))) (congrArg va_rf hp0_p) ?_
          refine g_S (As := [.ref (b.1 2 (wh S pj))]) (st := []) hC 1 dX9_find_38 gX9_find_X9_asTable rfl (by decide +kernel) ⟨Nat.le_of_ble_eq_true rfl, Nat.le_of_ble_eq_true rfl⟩ rfl (Nat.le_of_ble_eq_true rfl) ⟨Nat.le_of_ble_eq_true rfl, Nat.le_of_ble_eq_true rfl⟩ (c2 := 0) (s2 := 0) rfl rfl (x_asTable (some (b.1 2 (wh S pj))) 2 (Or.inr ⟨_, 4, _, rfl, (hx0.G hw_p rfl), Or.inr (Or.inl ⟨rfl, rfl⟩)⟩)) ?_
          refine g_astore (lv' := [(4, .null), (3, .int (nI 2)), (0, .ref M), (1, .int (nI pj)), (2, .int (nI qj))]) hC dX9_find_41 (by decide) rfl (Or.inl rfl) ?_
          refine g_aload_n hC dX9_find_43 rfl 2 rfl (Or.inr ⟨_, rfl⟩) ?_
          refine g_get hC (by decide +kernel) rfl (hx0.M hM).1 (hx0.M hM).2 0 (by decide) (by decide +kernel) (Or.inl rfl) rfl dX9_find_44 ?_
          refine g_iload_n hC dX9_find_47 rfl 4 rfl ?_
          refine g_aald hC 5 rfl (hx0.Mp rfl).1 (hx0.Mp rfl).2 (qj) rfl (show qj < 10 by omega) (by decide) dX9_find_48 ?_
          refine g_val (w := .ref (b.1 4 (wh S qj))) (congrArg va_rf hp0_q) ?_
          refine g_S (As := [.ref (b.1 4 (wh S qj))]) (st := []) hC 1 dX9_find_49 gX9_find_X9_asBytes rfl (by decide +kernel) ⟨Nat.le_of_ble_eq_true rfl, Nat.le_of_ble_eq_true rfl⟩ rfl (Nat.le_of_ble_eq_true rfl) ⟨Nat.le_of_ble_eq_true rfl, Nat.le_of_ble_eq_true rfl⟩ (c2 := 0) (s2 := 0) rfl rfl (x_asBytes (some (b.1 4 (wh S qj))) 3 (Or.inr ⟨_, 3, _, rfl, (hx0.W hw_q rfl), Or.inr (Or.inr (Or.inl ⟨rfl, rfl⟩))⟩)) ?_
          refine g_astore (lv' := [(5, .null), (4, .null), (3, .int (nI 2)), (0, .ref M), (1, .int (nI pj)), (2, .int (nI qj))]) hC dX9_find_52 (by decide) rfl (Or.inl rfl) ?_
          refine g_iload_n hC dX9_find_54 rfl 2 rfl ?_
          refine g_ifN_ne (a := 2) (tgt := 68) hC dX9_find_55 (by decide) (by omega) (fun h55 => ?_) (fun h55 => ?_)
          · refine g_aload_n hC dX9_find_68 rfl 3 rfl (Or.inr ⟨_, rfl⟩) ?_
            refine g_iload_n hC dX9_find_69 rfl 2 rfl ?_
            refine g_Vx (As := [.int (nI 2)]) (st := []) hC 1 dX9_find_70 rfl (hx0.M hM).1 (hx0.M hM).2 gX9_find_X9_failed rfl (by decide +kernel) ⟨Nat.le_of_ble_eq_true rfl, Nat.le_of_ble_eq_true rfl⟩ rfl (Nat.le_of_ble_eq_true rfl) ⟨(Nat.le_of_ble_eq_true rfl), (Nat.le_of_ble_eq_true rfl)⟩ (c2 := 0) (s2 := 0) rfl rfl (x_failed hx0 M hM 2) (fun v1 L1 f1 hp1 => ?_)
            obtain ⟨rfl, hx1⟩ := hp1
            show gW X vwCl 6 L1 f1 0 0 73 [(5, .null), (4, .null), (3, .int (nI 2)), (0, .ref M), (1, .int (nI pj)), (2, .int (nI qj))] [.int (fA 2)]
            have hc_p : castF S pj 4 = 2 := by unfold castF isO; rw [hk_p] <;> decide
            have hc_q : castF S qj 1 = 2 := by unfold castF isO; rw [hk_q] <;> decide
            have hbf : bthF S pj qj 1 = 2 := by unfold bthF; rw [hc_p, hc_q] <;> decide
            have hE : s_find S (nI pj) (nI qj) = (fA 2, (aSc (thS S) 1 2)) := by
              unfold s_find
              rw [if_pos h4, if_pos h11, hpl_p, hpl_q, hbf, if_pos (show 0 < 2 by decide)] <;> rfl
            exact g_iret hC hR dX9_find_73 ⟨b, congrArg (fun z => some (Value.int (Prod.fst z))) hE.symm, by rw [hE]; exact hx1, xG.rf⟩
          · exfalso; omega
        · have hw_q : wh S qj < S.1 13 := hI.wt hqj (by omega)
          have hb_q : S.2.1 14 (wh S qj) = 0 := by have := ((hI.2.1 _ hqj).2.2.2.2.2 (by omega)).2; omega
          have hp0_q : plcF (thS S) b qj = some (b.1 6 (wh S qj)) := plc_k hqj hk_q (by decide)
          refine g_aald hC 5 rfl (hx0.Mp rfl).1 (hx0.Mp rfl).2 (qj) rfl (show qj < 10 by omega) (by decide) dX9_find_27 ?_
          refine g_val (w := .ref (b.1 6 (wh S qj))) (congrArg va_rf hp0_q) ?_
          refine g_S (As := [.ref (b.1 2 (wh S pj)), .ref (b.1 6 (wh S qj))]) (st := []) hC 2 dX9_find_28 gX9_find_X9_lookFault rfl (by decide +kernel) ⟨Nat.le_of_ble_eq_true rfl, Nat.le_of_ble_eq_true rfl⟩ rfl (Nat.le_of_ble_eq_true rfl) ⟨Nat.le_of_ble_eq_true rfl, Nat.le_of_ble_eq_true rfl⟩ (c2 := 0) (s2 := 0) rfl rfl (x_lookFault (some (b.1 2 (wh S pj))) (some (b.1 6 (wh S qj))) 2 4 (Or.inr ⟨_, 4, _, rfl, (hx0.G hw_p rfl), Or.inr (Or.inl ⟨rfl, rfl⟩)⟩) (Or.inr ⟨_, 5, _, rfl, (hx0.T hw_q rfl hb_q), Or.inr (Or.inr (Or.inr (Or.inl ⟨rfl, rfl⟩)))⟩)) ?_
          refine g_istore_n (lv' := [(3, .int (nI 2)), (0, .ref M), (1, .int (nI pj)), (2, .int (nI qj))]) hC dX9_find_31 rfl (by decide) rfl ?_
          refine g_aload_n hC dX9_find_32 rfl 1 rfl (Or.inr ⟨_, rfl⟩) ?_
          refine g_get hC (by decide +kernel) rfl (hx0.M hM).1 (hx0.M hM).2 0 (by decide) (by decide +kernel) (Or.inl rfl) rfl dX9_find_33 ?_
          refine g_iload_n hC dX9_find_36 rfl 2 rfl ?_
          refine g_aald hC 5 rfl (hx0.Mp rfl).1 (hx0.Mp rfl).2 (pj) rfl (show pj < 10 by omega) (by decide) dX9_find_37 ?_
          refine g_val (w := .ref (b.1 2 (wh S pj))) (congrArg va_rf hp0_p) ?_
          refine g_S (As := [.ref (b.1 2 (wh S pj))]) (st := []) hC 1 dX9_find_38 gX9_find_X9_asTable rfl (by decide +kernel) ⟨Nat.le_of_ble_eq_true rfl, Nat.le_of_ble_eq_true rfl⟩ rfl (Nat.le_of_ble_eq_true rfl) ⟨Nat.le_of_ble_eq_true rfl, Nat.le_of_ble_eq_true rfl⟩ (c2 := 0) (s2 := 0) rfl rfl (x_asTable (some (b.1 2 (wh S pj))) 2 (Or.inr ⟨_, 4, _, rfl, (hx0.G hw_p rfl), Or.inr (Or.inl ⟨rfl, rfl⟩)⟩)) ?_
          refine g_astore (lv' := [(4, .null), (3, .int (nI 2)), (0, .ref M), (1, .int (nI pj)), (2, .int (nI qj))]) hC dX9_find_41 (by decide) rfl (Or.inl rfl) ?_
          refine g_aload_n hC dX9_find_43 rfl 2 rfl (Or.inr ⟨_, rfl⟩) ?_
          refine g_get hC (by decide +kernel) rfl (hx0.M hM).1 (hx0.M hM).2 0 (by decide) (by decide +kernel) (Or.inl rfl) rfl dX9_find_44 ?_
          refine g_iload_n hC dX9_find_47 rfl 4 rfl ?_
          refine g_aald hC 5 rfl (hx0.Mp rfl).1 (hx0.Mp rfl).2 (qj) rfl (show qj < 10 by omega) (by decide) dX9_find_48 ?_
          refine g_val (w := .ref (b.1 6 (wh S qj))) (congrArg va_rf hp0_q) ?_
          refine g_S (As := [.ref (b.1 6 (wh S qj))]) (st := []) hC 1 dX9_find_49 gX9_find_X9_asBytes rfl (by decide +kernel) ⟨Nat.le_of_ble_eq_true rfl, Nat.le_of_ble_eq_true rfl⟩ rfl (Nat.le_of_ble_eq_true rfl) ⟨Nat.le_of_ble_eq_true rfl, Nat.le_of_ble_eq_true rfl⟩ (c2 := 0) (s2 := 0) rfl rfl (x_asBytes (some (b.1 6 (wh S qj))) 4 (Or.inr ⟨_, 5, _, rfl, (hx0.T hw_q rfl hb_q), Or.inr (Or.inr (Or.inr (Or.inl ⟨rfl, rfl⟩)))⟩)) ?_
          refine g_astore (lv' := [(5, .null), (4, .null), (3, .int (nI 2)), (0, .ref M), (1, .int (nI pj)), (2, .int (nI qj))]) hC dX9_find_52 (by decide) rfl (Or.inl rfl) ?_
          refine g_iload_n hC dX9_find_54 rfl 2 rfl ?_
          refine g_ifN_ne (a := 2) (tgt := 68) hC dX9_find_55 (by decide) (by omega) (fun h55 => ?_) (fun h55 => ?_)
          · refine g_aload_n hC dX9_find_68 rfl 3 rfl (Or.inr ⟨_, rfl⟩) ?_
            refine g_iload_n hC dX9_find_69 rfl 2 rfl ?_
            refine g_Vx (As := [.int (nI 2)]) (st := []) hC 1 dX9_find_70 rfl (hx0.M hM).1 (hx0.M hM).2 gX9_find_X9_failed rfl (by decide +kernel) ⟨Nat.le_of_ble_eq_true rfl, Nat.le_of_ble_eq_true rfl⟩ rfl (Nat.le_of_ble_eq_true rfl) ⟨(Nat.le_of_ble_eq_true rfl), (Nat.le_of_ble_eq_true rfl)⟩ (c2 := 0) (s2 := 0) rfl rfl (x_failed hx0 M hM 2) (fun v1 L1 f1 hp1 => ?_)
            obtain ⟨rfl, hx1⟩ := hp1
            show gW X vwCl 6 L1 f1 0 0 73 [(5, .null), (4, .null), (3, .int (nI 2)), (0, .ref M), (1, .int (nI pj)), (2, .int (nI qj))] [.int (fA 2)]
            have hc_p : castF S pj 4 = 2 := by unfold castF isO; rw [hk_p] <;> decide
            have hc_q : castF S qj 1 = 2 := by unfold castF isO; rw [hk_q] <;> decide
            have hbf : bthF S pj qj 1 = 2 := by unfold bthF; rw [hc_p, hc_q] <;> decide
            have hE : s_find S (nI pj) (nI qj) = (fA 2, (aSc (thS S) 1 2)) := by
              unfold s_find
              rw [if_pos h4, if_pos h11, hpl_p, hpl_q, hbf, if_pos (show 0 < 2 by decide)] <;> rfl
            exact g_iret hC hR dX9_find_73 ⟨b, congrArg (fun z => some (Value.int (Prod.fst z))) hE.symm, by rw [hE]; exact hx1, xG.rf⟩
          · exfalso; omega
        · have hw_q : wh S qj < S.1 13 := hI.wt hqj (by omega)
          have hb_q : S.2.1 14 (wh S qj) ≠ 0 := by have := ((hI.2.1 _ hqj).2.2.2.2.2 (by omega)).2; omega
          have hp0_q : plcF (thS S) b qj = some (b.1 6 (wh S qj)) := plc_k hqj hk_q (by decide)
          refine g_aald hC 5 rfl (hx0.Mp rfl).1 (hx0.Mp rfl).2 (qj) rfl (show qj < 10 by omega) (by decide) dX9_find_27 ?_
          refine g_val (w := .ref (b.1 6 (wh S qj))) (congrArg va_rf hp0_q) ?_
          refine g_S (As := [.ref (b.1 2 (wh S pj)), .ref (b.1 6 (wh S qj))]) (st := []) hC 2 dX9_find_28 gX9_find_X9_lookFault rfl (by decide +kernel) ⟨Nat.le_of_ble_eq_true rfl, Nat.le_of_ble_eq_true rfl⟩ rfl (Nat.le_of_ble_eq_true rfl) ⟨Nat.le_of_ble_eq_true rfl, Nat.le_of_ble_eq_true rfl⟩ (c2 := 0) (s2 := 0) rfl rfl (x_lookFault (some (b.1 2 (wh S pj))) (some (b.1 6 (wh S qj))) 2 5 (Or.inr ⟨_, 4, _, rfl, (hx0.G hw_p rfl), Or.inr (Or.inl ⟨rfl, rfl⟩)⟩) (Or.inr ⟨_, 1, _, rfl, (hx0.K hw_q rfl hb_q), Or.inr (Or.inr (Or.inr (Or.inr ⟨rfl, rfl⟩)))⟩)) ?_
          refine g_istore_n (lv' := [(3, .int (nI 2)), (0, .ref M), (1, .int (nI pj)), (2, .int (nI qj))]) hC dX9_find_31 rfl (by decide) rfl ?_
          refine g_aload_n hC dX9_find_32 rfl 1 rfl (Or.inr ⟨_, rfl⟩) ?_
          refine g_get hC (by decide +kernel) rfl (hx0.M hM).1 (hx0.M hM).2 0 (by decide) (by decide +kernel) (Or.inl rfl) rfl dX9_find_33 ?_
          refine g_iload_n hC dX9_find_36 rfl 2 rfl ?_
          refine g_aald hC 5 rfl (hx0.Mp rfl).1 (hx0.Mp rfl).2 (pj) rfl (show pj < 10 by omega) (by decide) dX9_find_37 ?_
          refine g_val (w := .ref (b.1 2 (wh S pj))) (congrArg va_rf hp0_p) ?_
          refine g_S (As := [.ref (b.1 2 (wh S pj))]) (st := []) hC 1 dX9_find_38 gX9_find_X9_asTable rfl (by decide +kernel) ⟨Nat.le_of_ble_eq_true rfl, Nat.le_of_ble_eq_true rfl⟩ rfl (Nat.le_of_ble_eq_true rfl) ⟨Nat.le_of_ble_eq_true rfl, Nat.le_of_ble_eq_true rfl⟩ (c2 := 0) (s2 := 0) rfl rfl (x_asTable (some (b.1 2 (wh S pj))) 2 (Or.inr ⟨_, 4, _, rfl, (hx0.G hw_p rfl), Or.inr (Or.inl ⟨rfl, rfl⟩)⟩)) ?_
          refine g_astore (lv' := [(4, .null), (3, .int (nI 2)), (0, .ref M), (1, .int (nI pj)), (2, .int (nI qj))]) hC dX9_find_41 (by decide) rfl (Or.inl rfl) ?_
          refine g_aload_n hC dX9_find_43 rfl 2 rfl (Or.inr ⟨_, rfl⟩) ?_
          refine g_get hC (by decide +kernel) rfl (hx0.M hM).1 (hx0.M hM).2 0 (by decide) (by decide +kernel) (Or.inl rfl) rfl dX9_find_44 ?_
          refine g_iload_n hC dX9_find_47 rfl 4 rfl ?_
          refine g_aald hC 5 rfl (hx0.Mp rfl).1 (hx0.Mp rfl).2 (qj) rfl (show qj < 10 by omega) (by decide) dX9_find_48 ?_
          refine g_val (w := .ref (b.1 6 (wh S qj))) (congrArg va_rf hp0_q) ?_
          refine g_S (As := [.ref (b.1 6 (wh S qj))]) (st := []) hC 1 dX9_find_49 gX9_find_X9_asBytes rfl (by decide +kernel) ⟨Nat.le_of_ble_eq_true rfl, Nat.le_of_ble_eq_true rfl⟩ rfl (Nat.le_of_ble_eq_true rfl) ⟨Nat.le_of_ble_eq_true rfl, Nat.le_of_ble_eq_true rfl⟩ (c2 := 0) (s2 := 0) rfl rfl (x_asBytes (some (b.1 6 (wh S qj))) 5 (Or.inr ⟨_, 1, _, rfl, (hx0.K hw_q rfl hb_q), Or.inr (Or.inr (Or.inr (Or.inr ⟨rfl, rfl⟩)))⟩)) ?_
          refine g_astore (lv' := [(5, .null), (4, .null), (3, .int (nI 2)), (0, .ref M), (1, .int (nI pj)), (2, .int (nI qj))]) hC dX9_find_52 (by decide) rfl (Or.inl rfl) ?_
          refine g_iload_n hC dX9_find_54 rfl 2 rfl ?_
          refine g_ifN_ne (a := 2) (tgt := 68) hC dX9_find_55 (by decide) (by omega) (fun h55 => ?_) (fun h55 => ?_)
          · refine g_aload_n hC dX9_find_68 rfl 3 rfl (Or.inr ⟨_, rfl⟩) ?_
            refine g_iload_n hC dX9_find_69 rfl 2 rfl ?_
            refine g_Vx (As := [.int (nI 2)]) (st := []) hC 1 dX9_find_70 rfl (hx0.M hM).1 (hx0.M hM).2 gX9_find_X9_failed rfl (by decide +kernel) ⟨Nat.le_of_ble_eq_true rfl, Nat.le_of_ble_eq_true rfl⟩ rfl (Nat.le_of_ble_eq_true rfl) ⟨(Nat.le_of_ble_eq_true rfl), (Nat.le_of_ble_eq_true rfl)⟩ (c2 := 0) (s2 := 0) rfl rfl (x_failed hx0 M hM 2) (fun v1 L1 f1 hp1 => ?_)
            obtain ⟨rfl, hx1⟩ := hp1
            show gW X vwCl 6 L1 f1 0 0 73 [(5, .null), (4, .null), (3, .int (nI 2)), (0, .ref M), (1, .int (nI pj)), (2, .int (nI qj))] [.int (fA 2)]
            have hc_p : castF S pj 4 = 2 := by unfold castF isO; rw [hk_p] <;> decide
            have hc_q : castF S qj 1 = 2 := by unfold castF isO; rw [hk_q] <;> decide
            have hbf : bthF S pj qj 1 = 2 := by unfold bthF; rw [hc_p, hc_q] <;> decide
            have hE : s_find S (nI pj) (nI qj) = (fA 2, (aSc (thS S) 1 2)) := by
              unfold s_find
              rw [if_pos h4, if_pos h11, hpl_p, hpl_q, hbf, if_pos (show 0 < 2 by decide)] <;> rfl
            exact g_iret hC hR dX9_find_73 ⟨b, congrArg (fun z => some (Value.int (Prod.fst z))) hE.symm, by rw [hE]; exact hx1, xG.rf⟩
          · exfalso; omega
      · have hw_p : wh S pj < S.1 10 := hI.wr hpj hk_p
        have hp0_p : plcF (thS S) b pj = some (b.1 4 (wh S pj)) := plc_k hpj hk_p (by decide)
        refine g_aald hC 5 rfl (hx0.Mp rfl).1 (hx0.Mp rfl).2 (pj) rfl (show pj < 10 by omega) (by decide) dX9_find_21 ?_
        refine g_val (w := .ref (b.1 4 (wh S pj))) (congrArg va_rf hp0_p) ?_
        refine g_aload_n hC dX9_find_22 rfl 0 rfl (Or.inr ⟨_, rfl⟩) ?_
        refine g_get hC (by decide +kernel) rfl (hx0.M hM).1 (hx0.M hM).2 0 (by decide) (by decide +kernel) (Or.inl rfl) rfl dX9_find_23 ?_
        refine g_iload_n hC dX9_find_26 rfl 2 rfl ?_
        have h5_q := hI.k5 hqj
        rcases (show kd S qj = 0 ∨ kd S qj = 1 ∨ kd S qj = 2 ∨ kd S qj = 3 ∨ kd S qj = 4 ∨ kd S qj = 5 by omega) with hk_q | hk_q | hk_q | hk_q | hk_q | hk_q
        · have hp0_q : plcF (thS S) b qj = none := plc_0 hqj hk_q
          refine g_aald hC 5 rfl (hx0.Mp rfl).1 (hx0.Mp rfl).2 (qj) rfl (show qj < 10 by omega) (by decide) dX9_find_27 ?_
          refine g_val (w := .null) (congrArg va_rf hp0_q) ?_
          refine g_S (As := [.ref (b.1 4 (wh S pj)), .null]) (st := []) hC 2 dX9_find_28 gX9_find_X9_lookFault rfl (by decide +kernel) ⟨Nat.le_of_ble_eq_true rfl, Nat.le_of_ble_eq_true rfl⟩ rfl (Nat.le_of_ble_eq_true rfl) ⟨Nat.le_of_ble_eq_true rfl, Nat.le_of_ble_eq_true rfl⟩ (c2 := 0) (s2 := 0) rfl rfl (x_lookFault (some (b.1 4 (wh S pj))) none 3 0 (Or.inr ⟨_, 3, _, rfl, (hx0.W hw_p rfl), Or.inr (Or.inr (Or.inl ⟨rfl, rfl⟩))⟩) (Or.inl ⟨rfl, rfl⟩)) ?_
          refine g_istore_n (lv' := [(3, .int (nI 2)), (0, .ref M), (1, .int (nI pj)), (2, .int (nI qj))]) hC dX9_find_31 rfl (by decide) rfl ?_
          refine g_aload_n hC dX9_find_32 rfl 1 rfl (Or.inr ⟨_, rfl⟩) ?_
          refine g_get hC (by decide +kernel) rfl (hx0.M hM).1 (hx0.M hM).2 0 (by decide) (by decide +kernel) (Or.inl rfl) rfl dX9_find_33 ?_
          refine g_iload_n hC dX9_find_36 rfl 2 rfl ?_
          refine g_aald hC 5 rfl (hx0.Mp rfl).1 (hx0.Mp rfl).2 (pj) rfl (show pj < 10 by omega) (by decide) dX9_find_37 ?_
          refine g_val (w := .ref (b.1 4 (wh S pj))) (congrArg va_rf hp0_p) ?_
          refine g_S (As := [.ref (b.1 4 (wh S pj))]) (st := []) hC 1 dX9_find_38 gX9_find_X9_asTable rfl (by decide +kernel) ⟨Nat.le_of_ble_eq_true rfl, Nat.le_of_ble_eq_true rfl⟩ rfl (Nat.le_of_ble_eq_true rfl) ⟨Nat.le_of_ble_eq_true rfl, Nat.le_of_ble_eq_true rfl⟩ (c2 := 0) (s2 := 0) rfl rfl (x_asTable (some (b.1 4 (wh S pj))) 3 (Or.inr ⟨_, 3, _, rfl, (hx0.W hw_p rfl), Or.inr (Or.inr (Or.inl ⟨rfl, rfl⟩))⟩)) ?_
          refine g_astore (lv' := [(4, .null), (3, .int (nI 2)), (0, .ref M), (1, .int (nI pj)), (2, .int (nI qj))]) hC dX9_find_41 (by decide) rfl (Or.inl rfl) ?_
          refine g_aload_n hC dX9_find_43 rfl 2 rfl (Or.inr ⟨_, rfl⟩) ?_
          refine g_get hC (by decide +kernel) rfl (hx0.M hM).1 (hx0.M hM).2 0 (by decide) (by decide +kernel) (Or.inl rfl) rfl dX9_find_44 ?_
          refine g_iload_n hC dX9_find_47 rfl 4 rfl ?_
          refine g_aald hC 5 rfl (hx0.Mp rfl).1 (hx0.Mp rfl).2 (qj) rfl (show qj < 10 by omega) (by decide) dX9_find_48 ?_
          refine g_val (w := .null) (congrArg va_rf hp0_q) ?_
          refine g_S (As := [.null]) (st := []) hC 1 dX9_find_49 gX9_find_X9_asBytes rfl (by decide +kernel) ⟨Nat.le_of_ble_eq_true rfl, Nat.le_of_ble_eq_true rfl⟩ rfl (Nat.le_of_ble_eq_true rfl) ⟨Nat.le_of_ble_eq_true rfl, Nat.le_of_ble_eq_true rfl⟩ (c2 := 0) (s2 := 0) rfl rfl (x_asBytes none 0 (Or.inl ⟨rfl, rfl⟩)) ?_
          refine g_astore (lv' := [(5, .null), (4, .null), (3, .int (nI 2)), (0, .ref M), (1, .int (nI pj)), (2, .int (nI qj))]) hC dX9_find_52 (by decide) rfl (Or.inl rfl) ?_
          refine g_iload_n hC dX9_find_54 rfl 2 rfl ?_
          refine g_ifN_ne (a := 2) (tgt := 68) hC dX9_find_55 (by decide) (by omega) (fun h55 => ?_) (fun h55 => ?_)
          · refine g_aload_n hC dX9_find_68 rfl 3 rfl (Or.inr ⟨_, rfl⟩) ?_
            refine g_iload_n hC dX9_find_69 rfl 2 rfl ?_
            refine g_Vx (As := [.int (nI 2)]) (st := []) hC 1 dX9_find_70 rfl (hx0.M hM).1 (hx0.M hM).2 gX9_find_X9_failed rfl (by decide +kernel) ⟨Nat.le_of_ble_eq_true rfl, Nat.le_of_ble_eq_true rfl⟩ rfl (Nat.le_of_ble_eq_true rfl) ⟨(Nat.le_of_ble_eq_true rfl), (Nat.le_of_ble_eq_true rfl)⟩ (c2 := 0) (s2 := 0) rfl rfl (x_failed hx0 M hM 2) (fun v1 L1 f1 hp1 => ?_)
            obtain ⟨rfl, hx1⟩ := hp1
            show gW X vwCl 6 L1 f1 0 0 73 [(5, .null), (4, .null), (3, .int (nI 2)), (0, .ref M), (1, .int (nI pj)), (2, .int (nI qj))] [.int (fA 2)]
            have hc_p : castF S pj 4 = 2 := by unfold castF isO; rw [hk_p] <;> decide
            have hc_q : castF S qj 1 = 1 := by unfold castF isO; rw [hk_q] <;> decide
            have hbf : bthF S pj qj 1 = 2 := by unfold bthF; rw [hc_p, hc_q] <;> decide
            have hE : s_find S (nI pj) (nI qj) = (fA 2, (aSc (thS S) 1 2)) := by
              unfold s_find
              rw [if_pos h4, if_pos h11, hpl_p, hpl_q, hbf, if_pos (show 0 < 2 by decide)] <;> rfl
            exact g_iret hC hR dX9_find_73 ⟨b, congrArg (fun z => some (Value.int (Prod.fst z))) hE.symm, by rw [hE]; exact hx1, xG.rf⟩
          · exfalso; omega
        · have hw_q : wh S qj < S.1 4 := hI.wl hqj hk_q
          have hp0_q : plcF (thS S) b qj = some (b.1 0 (wh S qj)) := plc_k hqj hk_q (by decide)
          refine g_aald hC 5 rfl (hx0.Mp rfl).1 (hx0.Mp rfl).2 (qj) rfl (show qj < 10 by omega) (by decide) dX9_find_27 ?_
          refine g_val (w := .ref (b.1 0 (wh S qj))) (congrArg va_rf hp0_q) ?_
          refine g_S (As := [.ref (b.1 4 (wh S pj)), .ref (b.1 0 (wh S qj))]) (st := []) hC 2 dX9_find_28 gX9_find_X9_lookFault rfl (by decide +kernel) ⟨Nat.le_of_ble_eq_true rfl, Nat.le_of_ble_eq_true rfl⟩ rfl (Nat.le_of_ble_eq_true rfl) ⟨Nat.le_of_ble_eq_true rfl, Nat.le_of_ble_eq_true rfl⟩ (c2 := 0) (s2 := 0) rfl rfl (x_lookFault (some (b.1 4 (wh S pj))) (some (b.1 0 (wh S qj))) 3 1 (Or.inr ⟨_, 3, _, rfl, (hx0.W hw_p rfl), Or.inr (Or.inr (Or.inl ⟨rfl, rfl⟩))⟩) (Or.inr ⟨_, 0, _, rfl, (hx0.B hw_q rfl), Or.inl ⟨rfl, rfl⟩⟩)) ?_
          refine g_istore_n (lv' := [(3, .int (nI 2)), (0, .ref M), (1, .int (nI pj)), (2, .int (nI qj))]) hC dX9_find_31 rfl (by decide) rfl ?_
          refine g_aload_n hC dX9_find_32 rfl 1 rfl (Or.inr ⟨_, rfl⟩) ?_
          refine g_get hC (by decide +kernel) rfl (hx0.M hM).1 (hx0.M hM).2 0 (by decide) (by decide +kernel) (Or.inl rfl) rfl dX9_find_33 ?_
          refine g_iload_n hC dX9_find_36 rfl 2 rfl ?_
          refine g_aald hC 5 rfl (hx0.Mp rfl).1 (hx0.Mp rfl).2 (pj) rfl (show pj < 10 by omega) (by decide) dX9_find_37 ?_
          refine g_val (w := .ref (b.1 4 (wh S pj))) (congrArg va_rf hp0_p) ?_
          refine g_S (As := [.ref (b.1 4 (wh S pj))]) (st := []) hC 1 dX9_find_38 gX9_find_X9_asTable rfl (by decide +kernel) ⟨Nat.le_of_ble_eq_true rfl, Nat.le_of_ble_eq_true rfl⟩ rfl (Nat.le_of_ble_eq_true rfl) ⟨Nat.le_of_ble_eq_true rfl, Nat.le_of_ble_eq_true rfl⟩ (c2 := 0) (s2 := 0) rfl rfl (x_asTable (some (b.1 4 (wh S pj))) 3 (Or.inr ⟨_, 3, _, rfl, (hx0.W hw_p rfl), Or.inr (Or.inr (Or.inl ⟨rfl, rfl⟩))⟩)) ?_
          refine g_astore (lv' := [(4, .null), (3, .int (nI 2)), (0, .ref M), (1, .int (nI pj)), (2, .int (nI qj))]) hC dX9_find_41 (by decide) rfl (Or.inl rfl) ?_
          refine g_aload_n hC dX9_find_43 rfl 2 rfl (Or.inr ⟨_, rfl⟩) ?_
          refine g_get hC (by decide +kernel) rfl (hx0.M hM).1 (hx0.M hM).2 0 (by decide) (by decide +kernel) (Or.inl rfl) rfl dX9_find_44 ?_
          refine g_iload_n hC dX9_find_47 rfl 4 rfl ?_
          refine g_aald hC 5 rfl (hx0.Mp rfl).1 (hx0.Mp rfl).2 (qj) rfl (show qj < 10 by omega) (by decide) dX9_find_48 ?_
          refine g_val (w := .ref (b.1 0 (wh S qj))) (congrArg va_rf hp0_q) ?_
          refine g_S (As := [.ref (b.1 0 (wh S qj))]) (st := []) hC 1 dX9_find_49 gX9_find_X9_asBytes rfl (by decide +kernel) ⟨Nat.le_of_ble_eq_true rfl, Nat.le_of_ble_eq_true rfl⟩ rfl (Nat.le_of_ble_eq_true rfl) ⟨Nat.le_of_ble_eq_true rfl, Nat.le_of_ble_eq_true rfl⟩ (c2 := 0) (s2 := 0) rfl rfl (x_asBytes (some (b.1 0 (wh S qj))) 1 (Or.inr ⟨_, 0, _, rfl, (hx0.B hw_q rfl), Or.inl ⟨rfl, rfl⟩⟩)) ?_
          refine g_astore (lv' := [(5, .ref (b.1 0 (wh S qj))), (4, .null), (3, .int (nI 2)), (0, .ref M), (1, .int (nI pj)), (2, .int (nI qj))]) hC dX9_find_52 (by decide) rfl (Or.inr ⟨_, rfl⟩) ?_
          refine g_iload_n hC dX9_find_54 rfl 2 rfl ?_
          refine g_ifN_ne (a := 2) (tgt := 68) hC dX9_find_55 (by decide) (by omega) (fun h55 => ?_) (fun h55 => ?_)
          · refine g_aload_n hC dX9_find_68 rfl 3 rfl (Or.inr ⟨_, rfl⟩) ?_
            refine g_iload_n hC dX9_find_69 rfl 2 rfl ?_
            refine g_Vx (As := [.int (nI 2)]) (st := []) hC 1 dX9_find_70 rfl (hx0.M hM).1 (hx0.M hM).2 gX9_find_X9_failed rfl (by decide +kernel) ⟨Nat.le_of_ble_eq_true rfl, Nat.le_of_ble_eq_true rfl⟩ rfl (Nat.le_of_ble_eq_true rfl) ⟨(Nat.le_of_ble_eq_true rfl), (Nat.le_of_ble_eq_true rfl)⟩ (c2 := 0) (s2 := 0) rfl rfl (x_failed hx0 M hM 2) (fun v1 L1 f1 hp1 => ?_)
            obtain ⟨rfl, hx1⟩ := hp1
            show gW X vwCl 6 L1 f1 0 0 73 [(5, .ref (b.1 0 (wh S qj))), (4, .null), (3, .int (nI 2)), (0, .ref M), (1, .int (nI pj)), (2, .int (nI qj))] [.int (fA 2)]
            have hc_p : castF S pj 4 = 2 := by unfold castF isO; rw [hk_p] <;> decide
            have hc_q : castF S qj 1 = 0 := by unfold castF isO; rw [hk_q] <;> decide
            have hbf : bthF S pj qj 1 = 2 := by unfold bthF; rw [hc_p, hc_q] <;> decide
            have hE : s_find S (nI pj) (nI qj) = (fA 2, (aSc (thS S) 1 2)) := by
              unfold s_find
              rw [if_pos h4, if_pos h11, hpl_p, hpl_q, hbf, if_pos (show 0 < 2 by decide)] <;> rfl
            exact g_iret hC hR dX9_find_73 ⟨b, congrArg (fun z => some (Value.int (Prod.fst z))) hE.symm, by rw [hE]; exact hx1, xG.rf⟩
          · exfalso; omega
        · have hw_q : wh S qj < S.1 7 := hI.ws hqj hk_q
          have hp0_q : plcF (thS S) b qj = some (b.1 2 (wh S qj)) := plc_k hqj hk_q (by decide)
          refine g_aald hC 5 rfl (hx0.Mp rfl).1 (hx0.Mp rfl).2 (qj) rfl (show qj < 10 by omega) (by decide) dX9_find_27 ?_
          refine g_val (w := .ref (b.1 2 (wh S qj))) (congrArg va_rf hp0_q) ?_
          refine g_S (As := [.ref (b.1 4 (wh S pj)), .ref (b.1 2 (wh S qj))]) (st := []) hC 2 dX9_find_28 gX9_find_X9_lookFault rfl (by decide +kernel) ⟨Nat.le_of_ble_eq_true rfl, Nat.le_of_ble_eq_true rfl⟩ rfl (Nat.le_of_ble_eq_true rfl) ⟨Nat.le_of_ble_eq_true rfl, Nat.le_of_ble_eq_true rfl⟩ (c2 := 0) (s2 := 0) rfl rfl (x_lookFault (some (b.1 4 (wh S pj))) (some (b.1 2 (wh S qj))) 3 2 (Or.inr ⟨_, 3, _, rfl, (hx0.W hw_p rfl), Or.inr (Or.inr (Or.inl ⟨rfl, rfl⟩))⟩) (Or.inr ⟨_, 4, _, rfl, (hx0.G hw_q rfl), Or.inr (Or.inl ⟨rfl, rfl⟩)⟩)) ?_
          refine g_istore_n (lv' := [(3, .int (nI 2)), (0, .ref M), (1, .int (nI pj)), (2, .int (nI qj))]) hC dX9_find_31 rfl (by decide) rfl ?_
          refine g_aload_n hC dX9_find_32 rfl 1 rfl (Or.inr ⟨_, rfl⟩) ?_
          refine g_get hC (by decide +kernel) rfl (hx0.M hM).1 (hx0.M hM).2 0 (by decide) (by decide +kernel) (Or.inl rfl) rfl dX9_find_33 ?_
          refine g_iload_n hC dX9_find_36 rfl 2 rfl ?_
          refine g_aald hC 5 rfl (hx0.Mp rfl).1 (hx0.Mp rfl).2 (pj) rfl (show pj < 10 by omega) (by decide) dX9_find_37 ?_
          refine g_val (w := .ref (b.1 4 (wh S pj))) (congrArg va_rf hp0_p) ?_
          refine g_S (As := [.ref (b.1 4 (wh S pj))]) (st := []) hC 1 dX9_find_38 gX9_find_X9_asTable rfl (by decide +kernel) ⟨Nat.le_of_ble_eq_true rfl, Nat.le_of_ble_eq_true rfl⟩ rfl (Nat.le_of_ble_eq_true rfl) ⟨Nat.le_of_ble_eq_true rfl, Nat.le_of_ble_eq_true rfl⟩ (c2 := 0) (s2 := 0) rfl rfl (x_asTable (some (b.1 4 (wh S pj))) 3 (Or.inr ⟨_, 3, _, rfl, (hx0.W hw_p rfl), Or.inr (Or.inr (Or.inl ⟨rfl, rfl⟩))⟩)) ?_
          refine g_astore (lv' := [(4, .null), (3, .int (nI 2)), (0, .ref M), (1, .int (nI pj)), (2, .int (nI qj))]) hC dX9_find_41 (by decide) rfl (Or.inl rfl) ?_
          refine g_aload_n hC dX9_find_43 rfl 2 rfl (Or.inr ⟨_, rfl⟩) ?_
          refine g_get hC (by decide +kernel) rfl (hx0.M hM).1 (hx0.M hM).2 0 (by decide) (by decide +kernel) (Or.inl rfl) rfl dX9_find_44 ?_
          refine g_iload_n hC dX9_find_47 rfl 4 rfl ?_
          refine g_aald hC 5 rfl (hx0.Mp rfl).1 (hx0.Mp rfl).2 (qj) rfl (show qj < 10 by omega) (by decide) dX9_find_48 ?_
          refine g_val (w := .ref (b.1 2 (wh S qj))) (congrArg va_rf hp0_q) ?_
          refine g_S (As := [.ref (b.1 2 (wh S qj))]) (st := []) hC 1 dX9_find_49 gX9_find_X9_asBytes rfl (by decide +kernel) ⟨Nat.le_of_ble_eq_true rfl, Nat.le_of_ble_eq_true rfl⟩ rfl (Nat.le_of_ble_eq_true rfl) ⟨Nat.le_of_ble_eq_true rfl, Nat.le_of_ble_eq_true rfl⟩ (c2 := 0) (s2 := 0) rfl rfl (x_asBytes (some (b.1 2 (wh S qj))) 2 (Or.inr ⟨_, 4, _, rfl, (hx0.G hw_q rfl), Or.inr (Or.inl ⟨rfl, rfl⟩)⟩)) ?_
          refine g_astore (lv' := [(5, .null), (4, .null), (3, .int (nI 2)), (0, .ref M), (1, .int (nI pj)), (2, .int (nI qj))]) hC dX9_find_52 (by decide) rfl (Or.inl rfl) ?_
          refine g_iload_n hC dX9_find_54 rfl 2 rfl ?_
          refine g_ifN_ne (a := 2) (tgt := 68) hC dX9_find_55 (by decide) (by omega) (fun h55 => ?_) (fun h55 => ?_)
          · refine g_aload_n hC dX9_find_68 rfl 3 rfl (Or.inr ⟨_, rfl⟩) ?_
            refine g_iload_n hC dX9_find_69 rfl 2 rfl ?_
            refine g_Vx (As := [.int (nI 2)]) (st := []) hC 1 dX9_find_70 rfl (hx0.M hM).1 (hx0.M hM).2 gX9_find_X9_failed rfl (by decide +kernel) ⟨Nat.le_of_ble_eq_true rfl, Nat.le_of_ble_eq_true rfl⟩ rfl (Nat.le_of_ble_eq_true rfl) ⟨(Nat.le_of_ble_eq_true rfl), (Nat.le_of_ble_eq_true rfl)⟩ (c2 := 0) (s2 := 0) rfl rfl (x_failed hx0 M hM 2) (fun v1 L1 f1 hp1 => ?_)
            obtain ⟨rfl, hx1⟩ := hp1
            show gW X vwCl 6 L1 f1 0 0 73 [(5, .null), (4, .null), (3, .int (nI 2)), (0, .ref M), (1, .int (nI pj)), (2, .int (nI qj))] [.int (fA 2)]
            have hc_p : castF S pj 4 = 2 := by unfold castF isO; rw [hk_p] <;> decide
            have hc_q : castF S qj 1 = 2 := by unfold castF isO; rw [hk_q] <;> decide
            have hbf : bthF S pj qj 1 = 2 := by unfold bthF; rw [hc_p, hc_q] <;> decide
            have hE : s_find S (nI pj) (nI qj) = (fA 2, (aSc (thS S) 1 2)) := by
              unfold s_find
              rw [if_pos h4, if_pos h11, hpl_p, hpl_q, hbf, if_pos (show 0 < 2 by decide)] <;> rfl
            exact g_iret hC hR dX9_find_73 ⟨b, congrArg (fun z => some (Value.int (Prod.fst z))) hE.symm, by rw [hE]; exact hx1, xG.rf⟩
          · exfalso; omega
        · have hw_q : wh S qj < S.1 10 := hI.wr hqj hk_q
          have hp0_q : plcF (thS S) b qj = some (b.1 4 (wh S qj)) := plc_k hqj hk_q (by decide)
          refine g_aald hC 5 rfl (hx0.Mp rfl).1 (hx0.Mp rfl).2 (qj) rfl (show qj < 10 by omega) (by decide) dX9_find_27 ?_
          refine g_val (w := .ref (b.1 4 (wh S qj))) (congrArg va_rf hp0_q) ?_
          refine g_S (As := [.ref (b.1 4 (wh S pj)), .ref (b.1 4 (wh S qj))]) (st := []) hC 2 dX9_find_28 gX9_find_X9_lookFault rfl (by decide +kernel) ⟨Nat.le_of_ble_eq_true rfl, Nat.le_of_ble_eq_true rfl⟩ rfl (Nat.le_of_ble_eq_true rfl) ⟨Nat.le_of_ble_eq_true rfl, Nat.le_of_ble_eq_true rfl⟩ (c2 := 0) (s2 := 0) rfl rfl (x_lookFault (some (b.1 4 (wh S pj))) (some (b.1 4 (wh S qj))) 3 3 (Or.inr ⟨_, 3, _, rfl, (hx0.W hw_p rfl), Or.inr (Or.inr (Or.inl ⟨rfl, rfl⟩))⟩) (Or.inr ⟨_, 3, _, rfl, (hx0.W hw_q rfl), Or.inr (Or.inr (Or.inl ⟨rfl, rfl⟩))⟩)) ?_
          refine g_istore_n (lv' := [(3, .int (nI 2)), (0, .ref M), (1, .int (nI pj)), (2, .int (nI qj))]) hC dX9_find_31 rfl (by decide) rfl ?_
          refine g_aload_n hC dX9_find_32 rfl 1 rfl (Or.inr ⟨_, rfl⟩) ?_
          refine g_get hC (by decide +kernel) rfl (hx0.M hM).1 (hx0.M hM).2 0 (by decide) (by decide +kernel) (Or.inl rfl) rfl dX9_find_33 ?_
          refine g_iload_n hC dX9_find_36 rfl 2 rfl ?_
          refine g_aald hC 5 rfl (hx0.Mp rfl).1 (hx0.Mp rfl).2 (pj) rfl (show pj < 10 by omega) (by decide) dX9_find_37 ?_
          refine g_val (w := .ref (b.1 4 (wh S pj))) (congrArg va_rf hp0_p) ?_
          refine g_S (As := [.ref (b.1 4 (wh S pj))]) (st := []) hC 1 dX9_find_38 gX9_find_X9_asTable rfl (by decide +kernel) ⟨Nat.le_of_ble_eq_true rfl, Nat.le_of_ble_eq_true rfl⟩ rfl (Nat.le_of_ble_eq_true rfl) ⟨Nat.le_of_ble_eq_true rfl, Nat.le_of_ble_eq_true rfl⟩ (c2 := 0) (s2 := 0) rfl rfl (x_asTable (some (b.1 4 (wh S pj))) 3 (Or.inr ⟨_, 3, _, rfl, (hx0.W hw_p rfl), Or.inr (Or.inr (Or.inl ⟨rfl, rfl⟩))⟩)) ?_
          refine g_astore (lv' := [(4, .null), (3, .int (nI 2)), (0, .ref M), (1, .int (nI pj)), (2, .int (nI qj))]) hC dX9_find_41 (by decide) rfl (Or.inl rfl) ?_
          refine g_aload_n hC dX9_find_43 rfl 2 rfl (Or.inr ⟨_, rfl⟩) ?_
          refine g_get hC (by decide +kernel) rfl (hx0.M hM).1 (hx0.M hM).2 0 (by decide) (by decide +kernel) (Or.inl rfl) rfl dX9_find_44 ?_
          refine g_iload_n hC dX9_find_47 rfl 4 rfl ?_
          refine g_aald hC 5 rfl (hx0.Mp rfl).1 (hx0.Mp rfl).2 (qj) rfl (show qj < 10 by omega) (by decide) dX9_find_48 ?_
          refine g_val (w := .ref (b.1 4 (wh S qj))) (congrArg va_rf hp0_q) ?_
          refine g_S (As := [.ref (b.1 4 (wh S qj))]) (st := []) hC 1 dX9_find_49 gX9_find_X9_asBytes rfl (by decide +kernel) ⟨Nat.le_of_ble_eq_true rfl, Nat.le_of_ble_eq_true rfl⟩ rfl (Nat.le_of_ble_eq_true rfl) ⟨Nat.le_of_ble_eq_true rfl, Nat.le_of_ble_eq_true rfl⟩ (c2 := 0) (s2 := 0) rfl rfl (x_asBytes (some (b.1 4 (wh S qj))) 3 (Or.inr ⟨_, 3, _, rfl, (hx0.W hw_q rfl), Or.inr (Or.inr (Or.inl ⟨rfl, rfl⟩))⟩)) ?_
          refine g_astore (lv' := [(5, .null), (4, .null), (3, .int (nI 2)), (0, .ref M), (1, .int (nI pj)), (2, .int (nI qj))]) hC dX9_find_52 (by decide) rfl (Or.inl rfl) ?_
          refine g_iload_n hC dX9_find_54 rfl 2 rfl ?_
          refine g_ifN_ne (a := 2) (tgt := 68) hC dX9_find_55 (by decide) (by omega) (fun h55 => ?_) (fun h55 => ?_)
          · refine g_aload_n hC dX9_find_68 rfl 3 rfl (Or.inr ⟨_, rfl⟩) ?_
            refine g_iload_n hC dX9_find_69 rfl 2 rfl ?_
            refine g_Vx (As := [.int (nI 2)]) (st := []) hC 1 dX9_find_70 rfl (hx0.M hM).1 (hx0.M hM).2 gX9_find_X9_failed rfl (by decide +kernel) ⟨Nat.le_of_ble_eq_true rfl, Nat.le_of_ble_eq_true rfl⟩ rfl (Nat.le_of_ble_eq_true rfl) ⟨(Nat.le_of_ble_eq_true rfl), (Nat.le_of_ble_eq_true rfl)⟩ (c2 := 0) (s2 := 0) rfl rfl (x_failed hx0 M hM 2) (fun v1 L1 f1 hp1 => ?_)
            obtain ⟨rfl, hx1⟩ := hp1
            show gW X vwCl 6 L1 f1 0 0 73 [(5, .null), (4, .null), (3, .int (nI 2)), (0, .ref M), (1, .int (nI pj)), (2, .int (nI qj))] [.int (fA 2)]
            have hc_p : castF S pj 4 = 2 := by unfold castF isO; rw [hk_p] <;> decide
            have hc_q : castF S qj 1 = 2 := by unfold castF isO; rw [hk_q] <;> decide
            have hbf : bthF S pj qj 1 = 2 := by unfold bthF; rw [hc_p, hc_q] <;> decide
            have hE : s_find S (nI pj) (nI qj) = (fA 2, (aSc (thS S) 1 2)) := by
              unfold s_find
              rw [if_pos h4, if_pos h11, hpl_p, hpl_q, hbf, if_pos (show 0 < 2 by decide)] <;> rfl
            exact g_iret hC hR dX9_find_73 ⟨b, congrArg (fun z => some (Value.int (Prod.fst z))) hE.symm, by rw [hE]; exact hx1, xG.rf⟩
          · exfalso; omega
        · have hw_q : wh S qj < S.1 13 := hI.wt hqj (by omega)
          have hb_q : S.2.1 14 (wh S qj) = 0 := by have := ((hI.2.1 _ hqj).2.2.2.2.2 (by omega)).2; omega
          have hp0_q : plcF (thS S) b qj = some (b.1 6 (wh S qj)) := plc_k hqj hk_q (by decide)
          refine g_aald hC 5 rfl (hx0.Mp rfl).1 (hx0.Mp rfl).2 (qj) rfl (show qj < 10 by omega) (by decide) dX9_find_27 ?_
          refine g_val (w := .ref (b.1 6 (wh S qj))) (congrArg va_rf hp0_q) ?_
          refine g_S (As := [.ref (b.1 4 (wh S pj)), .ref (b.1 6 (wh S qj))]) (st := []) hC 2 dX9_find_28 gX9_find_X9_lookFault rfl (by decide +kernel) ⟨Nat.le_of_ble_eq_true rfl, Nat.le_of_ble_eq_true rfl⟩ rfl (Nat.le_of_ble_eq_true rfl) ⟨Nat.le_of_ble_eq_true rfl, Nat.le_of_ble_eq_true rfl⟩ (c2 := 0) (s2 := 0) rfl rfl (x_lookFault (some (b.1 4 (wh S pj))) (some (b.1 6 (wh S qj))) 3 4 (Or.inr ⟨_, 3, _, rfl, (hx0.W hw_p rfl), Or.inr (Or.inr (Or.inl ⟨rfl, rfl⟩))⟩) (Or.inr ⟨_, 5, _, rfl, (hx0.T hw_q rfl hb_q), Or.inr (Or.inr (Or.inr (Or.inl ⟨rfl, rfl⟩)))⟩)) ?_
          refine g_istore_n (lv' := [(3, .int (nI 2)), (0, .ref M), (1, .int (nI pj)), (2, .int (nI qj))]) hC dX9_find_31 rfl (by decide) rfl ?_
          refine g_aload_n hC dX9_find_32 rfl 1 rfl (Or.inr ⟨_, rfl⟩) ?_
          refine g_get hC (by decide +kernel) rfl (hx0.M hM).1 (hx0.M hM).2 0 (by decide) (by decide +kernel) (Or.inl rfl) rfl dX9_find_33 ?_
          refine g_iload_n hC dX9_find_36 rfl 2 rfl ?_
          refine g_aald hC 5 rfl (hx0.Mp rfl).1 (hx0.Mp rfl).2 (pj) rfl (show pj < 10 by omega) (by decide) dX9_find_37 ?_
          refine g_val (w := .ref (b.1 4 (wh S pj))) (congrArg va_rf hp0_p) ?_
          refine g_S (As := [.ref (b.1 4 (wh S pj))]) (st := []) hC 1 dX9_find_38 gX9_find_X9_asTable rfl (by decide +kernel) ⟨Nat.le_of_ble_eq_true rfl, Nat.le_of_ble_eq_true rfl⟩ rfl (Nat.le_of_ble_eq_true rfl) ⟨Nat.le_of_ble_eq_true rfl, Nat.le_of_ble_eq_true rfl⟩ (c2 := 0) (s2 := 0) rfl rfl (x_asTable (some (b.1 4 (wh S pj))) 3 (Or.inr ⟨_, 3, _, rfl, (hx0.W hw_p rfl), Or.inr (Or.inr (Or.inl ⟨rfl, rfl⟩))⟩)) ?_
          refine g_astore (lv' := [(4, .null), (3, .int (nI 2)), (0, .ref M), (1, .int (nI pj)), (2, .int (nI qj))]) hC dX9_find_41 (by decide) rfl (Or.inl rfl) ?_
          refine g_aload_n hC dX9_find_43 rfl 2 rfl (Or.inr ⟨_, rfl⟩) ?_
          refine g_get hC (by decide +kernel) rfl (hx0.M hM).1 (hx0.M hM).2 0 (by decide) (by decide +kernel) (Or.inl rfl) rfl dX9_find_44 ?_
          refine g_iload_n hC dX9_find_47 rfl 4 rfl ?_
          refine g_aald hC 5 rfl (hx0.Mp rfl).1 (hx0.Mp rfl).2 (qj) rfl (show qj < 10 by omega) (by decide) dX9_find_48 ?_
          refine g_val (w := .ref (b.1 6 (wh S qj))) (congrArg va_rf hp0_q) ?_
          refine g_S (As := [.ref (b.1 6 (wh S qj))]) (st := []) hC 1 dX9_find_49 gX9_find_X9_asBytes rfl (by decide +kernel) ⟨Nat.le_of_ble_eq_true rfl, Nat.le_of_ble_eq_true rfl⟩ rfl (Nat.le_of_ble_eq_true rfl) ⟨Nat.le_of_ble_eq_true rfl, Nat.le_of_ble_eq_true rfl⟩ (c2 := 0) (s2 := 0) rfl rfl (x_asBytes (some (b.1 6 (wh S qj))) 4 (Or.inr ⟨_, 5, _, rfl, (hx0.T hw_q rfl hb_q), Or.inr (Or.inr (Or.inr (Or.inl ⟨rfl, rfl⟩)))⟩)) ?_
          refine g_astore (lv' := [(5, .null), (4, .null), (3, .int (nI 2)), (0, .ref M), (1, .int (nI pj)), (2, .int (nI qj))]) hC dX9_find_52 (by decide) rfl (Or.inl rfl) ?_
          refine g_iload_n hC dX9_find_54 rfl 2 rfl ?_
          refine g_ifN_ne (a := 2) (tgt := 68) hC dX9_find_55 (by decide) (by omega) (fun h55 => ?_) (fun h55 => ?_)
          · refine g_aload_n hC dX9_find_68 rfl 3 rfl (Or.inr ⟨_, rfl⟩) ?_
            refine g_iload_n hC dX9_find_69 rfl 2 rfl ?_
            refine g_Vx (As := [.int (nI 2)]) (st := []) hC 1 dX9_find_70 rfl (hx0.M hM).1 (hx0.M hM).2 gX9_find_X9_failed rfl (by decide +kernel) ⟨Nat.le_of_ble_eq_true rfl, Nat.le_of_ble_eq_true rfl⟩ rfl (Nat.le_of_ble_eq_true rfl) ⟨(Nat.le_of_ble_eq_true rfl), (Nat.le_of_ble_eq_true rfl)⟩ (c2 := 0) (s2 := 0) rfl rfl (x_failed hx0 M hM 2) (fun v1 L1 f1 hp1 => ?_)
            obtain ⟨rfl, hx1⟩ := hp1
            show gW X vwCl 6 L1 f1 0 0 73 [(5, .null), (4, .null), (3, .int (nI 2)), (0, .ref M), (1, .int (nI pj)), (2, .int (nI qj))] [.int (fA 2)]
            have hc_p : castF S pj 4 = 2 := by unfold castF isO; rw [hk_p] <;> decide
            have hc_q : castF S qj 1 = 2 := by unfold castF isO; rw [hk_q] <;> decide
            have hbf : bthF S pj qj 1 = 2 := by unfold bthF; rw [hc_p, hc_q] <;> decide
            have hE : s_find S (nI pj) (nI qj) = (fA 2, (aSc (thS S) 1 2)) := by
              unfold s_find
              rw [if_pos h4, if_pos h11, hpl_p, hpl_q, hbf, if_pos (show 0 < 2 by decide)] <;> rfl
            exact g_iret hC hR dX9_find_73 ⟨b, congrArg (fun z => some (Value.int (Prod.fst z))) hE.symm, by rw [hE]; exact hx1, xG.rf⟩
          · exfalso; omega
        · have hw_q : wh S qj < S.1 13 := hI.wt hqj (by omega)
          have hb_q : S.2.1 14 (wh S qj) ≠ 0 := by have := ((hI.2.1 _ hqj).2.2.2.2.2 (by omega)).2; omega
          have hp0_q : plcF (thS S) b qj = some (b.1 6 (wh S qj)) := plc_k hqj hk_q (by decide)
          refine g_aald hC 5 rfl (hx0.Mp rfl).1 (hx0.Mp rfl).2 (qj) rfl (show qj < 10 by omega) (by decide) dX9_find_27 ?_
          refine g_val (w := .ref (b.1 6 (wh S qj))) (congrArg va_rf hp0_q) ?_
          refine g_S (As := [.ref (b.1 4 (wh S pj)), .ref (b.1 6 (wh S qj))]) (st := []) hC 2 dX9_find_28 gX9_find_X9_lookFault rfl (by decide +kernel) ⟨Nat.le_of_ble_eq_true rfl, Nat.le_of_ble_eq_true rfl⟩ rfl (Nat.le_of_ble_eq_true rfl) ⟨Nat.le_of_ble_eq_true rfl, Nat.le_of_ble_eq_true rfl⟩ (c2 := 0) (s2 := 0) rfl rfl (x_lookFault (some (b.1 4 (wh S pj))) (some (b.1 6 (wh S qj))) 3 5 (Or.inr ⟨_, 3, _, rfl, (hx0.W hw_p rfl), Or.inr (Or.inr (Or.inl ⟨rfl, rfl⟩))⟩) (Or.inr ⟨_, 1, _, rfl, (hx0.K hw_q rfl hb_q), Or.inr (Or.inr (Or.inr (Or.inr ⟨rfl, rfl⟩)))⟩)) ?_
          refine g_istore_n (lv' := [(3, .int (nI 2)), (0, .ref M), (1, .int (nI pj)), (2, .int (nI qj))]) hC dX9_find_31 rfl (by decide) rfl ?_
          refine g_aload_n hC dX9_find_32 rfl 1 rfl (Or.inr ⟨_, rfl⟩) ?_
          refine g_get hC (by decide +kernel) rfl (hx0.M hM).1 (hx0.M hM).2 0 (by decide) (by decide +kernel) (Or.inl rfl) rfl dX9_find_33 ?_
          refine g_iload_n hC dX9_find_36 rfl 2 rfl ?_
          refine g_aald hC 5 rfl (hx0.Mp rfl).1 (hx0.Mp rfl).2 (pj) rfl (show pj < 10 by omega) (by decide) dX9_find_37 ?_
          refine g_val (w := .ref (b.1 4 (wh S pj))) (congrArg va_rf hp0_p) ?_
          refine g_S (As := [.ref (b.1 4 (wh S pj))]) (st := []) hC 1 dX9_find_38 gX9_find_X9_asTable rfl (by decide +kernel) ⟨Nat.le_of_ble_eq_true rfl, Nat.le_of_ble_eq_true rfl⟩ rfl (Nat.le_of_ble_eq_true rfl) ⟨Nat.le_of_ble_eq_true rfl, Nat.le_of_ble_eq_true rfl⟩ (c2 := 0) (s2 := 0) rfl rfl (x_asTable (some (b.1 4 (wh S pj))) 3 (Or.inr ⟨_, 3, _, rfl, (hx0.W hw_p rfl), Or.inr (Or.inr (Or.inl ⟨rfl, rfl⟩))⟩)) ?_
          refine g_astore (lv' := [(4, .null), (3, .int (nI 2)), (0, .ref M), (1, .int (nI pj)), (2, .int (nI qj))]) hC dX9_find_41 (by decide) rfl (Or.inl rfl) ?_
          refine g_aload_n hC dX9_find_43 rfl 2 rfl (Or.inr ⟨_, rfl⟩) ?_
          refine g_get hC (by decide +kernel) rfl (hx0.M hM).1 (hx0.M hM).2 0 (by decide) (by decide +kernel) (Or.inl rfl) rfl dX9_find_44 ?_
          refine g_iload_n hC dX9_find_47 rfl 4 rfl ?_
          refine g_aald hC 5 rfl (hx0.Mp rfl).1 (hx0.Mp rfl).2 (qj) rfl (show qj < 10 by omega) (by decide) dX9_find_48 ?_
          refine g_val (w := .ref (b.1 6 (wh S qj))) (congrArg va_rf hp0_q) ?_
          refine g_S (As := [.ref (b.1 6 (wh S qj))]) (st := []) hC 1 dX9_find_49 gX9_find_X9_asBytes rfl (by decide +kernel) ⟨Nat.le_of_ble_eq_true rfl, Nat.le_of_ble_eq_true rfl⟩ rfl (Nat.le_of_ble_eq_true rfl) ⟨Nat.le_of_ble_eq_true rfl, Nat.le_of_ble_eq_true rfl⟩ (c2 := 0) (s2 := 0) rfl rfl (x_asBytes (some (b.1 6 (wh S qj))) 5 (Or.inr ⟨_, 1, _, rfl, (hx0.K hw_q rfl hb_q), Or.inr (Or.inr (Or.inr (Or.inr ⟨rfl, rfl⟩)))⟩)) ?_
          refine g_astore (lv' := [(5, .null), (4, .null), (3, .int (nI 2)), (0, .ref M), (1, .int (nI pj)), (2, .int (nI qj))]) hC dX9_find_52 (by decide) rfl (Or.inl rfl) ?_
          refine g_iload_n hC dX9_find_54 rfl 2 rfl ?_
          refine g_ifN_ne (a := 2) (tgt := 68) hC dX9_find_55 (by decide) (by omega) (fun h55 => ?_) (fun h55 => ?_)
          · refine g_aload_n hC dX9_find_68 rfl 3 rfl (Or.inr ⟨_, rfl⟩) ?_
            refine g_iload_n hC dX9_find_69 rfl 2 rfl ?_
            refine g_Vx (As := [.int (nI 2)]) (st := []) hC 1 dX9_find_70 rfl (hx0.M hM).1 (hx0.M hM).2 gX9_find_X9_failed rfl (by decide +kernel) ⟨Nat.le_of_ble_eq_true rfl, Nat.le_of_ble_eq_true rfl⟩ rfl (Nat.le_of_ble_eq_true rfl) ⟨(Nat.le_of_ble_eq_true rfl), (Nat.le_of_ble_eq_true rfl)⟩ (c2 := 0) (s2 := 0) rfl rfl (x_failed hx0 M hM 2) (fun v1 L1 f1 hp1 => ?_)
            obtain ⟨rfl, hx1⟩ := hp1
            show gW X vwCl 6 L1 f1 0 0 73 [(5, .null), (4, .null), (3, .int (nI 2)), (0, .ref M), (1, .int (nI pj)), (2, .int (nI qj))] [.int (fA 2)]
            have hc_p : castF S pj 4 = 2 := by unfold castF isO; rw [hk_p] <;> decide
            have hc_q : castF S qj 1 = 2 := by unfold castF isO; rw [hk_q] <;> decide
            have hbf : bthF S pj qj 1 = 2 := by unfold bthF; rw [hc_p, hc_q] <;> decide
            have hE : s_find S (nI pj) (nI qj) = (fA 2, (aSc (thS S) 1 2)) := by
              unfold s_find
              rw [if_pos h4, if_pos h11, hpl_p, hpl_q, hbf, if_pos (show 0 < 2 by decide)] <;> rfl
            exact g_iret hC hR dX9_find_73 ⟨b, congrArg (fun z => some (Value.int (Prod.fst z))) hE.symm, by rw [hE]; exact hx1, xG.rf⟩
          · exfalso; omega
      · have hw_p : wh S pj < S.1 13 := hI.wt hpj (by omega)
        have hb_p : S.2.1 14 (wh S pj) = 0 := by have := ((hI.2.1 _ hpj).2.2.2.2.2 (by omega)).2; omega
        have hp0_p : plcF (thS S) b pj = some (b.1 6 (wh S pj)) := plc_k hpj hk_p (by decide)
        have htk := hI.tk hw_p
        have htm := htk.2.1
        have hts := htk.sl
        have htk0 := hI0.tk (show wh S pj < (thS S).1 13 from hw_p)
        refine g_aald hC 5 rfl (hx0.Mp rfl).1 (hx0.Mp rfl).2 (pj) rfl (show pj < 10 by omega) (by decide) dX9_find_21 ?_
        refine g_val (w := .ref (b.1 6 (wh S pj))) (congrArg va_rf hp0_p) ?_
        refine g_aload_n hC dX9_find_22 rfl 0 rfl (Or.inr ⟨_, rfl⟩) ?_
        refine g_get hC (by decide +kernel) rfl (hx0.M hM).1 (hx0.M hM).2 0 (by decide) (by decide +kernel) (Or.inl rfl) rfl dX9_find_23 ?_
        refine g_iload_n hC dX9_find_26 rfl 2 rfl ?_
        have h5_q := hI.k5 hqj
        rcases (show kd S qj = 0 ∨ kd S qj = 1 ∨ kd S qj = 2 ∨ kd S qj = 3 ∨ kd S qj = 4 ∨ kd S qj = 5 by omega) with hk_q | hk_q | hk_q | hk_q | hk_q | hk_q
        · have hp0_q : plcF (thS S) b qj = none := plc_0 hqj hk_q
          refine g_aald hC 5 rfl (hx0.Mp rfl).1 (hx0.Mp rfl).2 (qj) rfl (show qj < 10 by omega) (by decide) dX9_find_27 ?_
          refine g_val (w := .null) (congrArg va_rf hp0_q) ?_
          refine g_S (As := [.ref (b.1 6 (wh S pj)), .null]) (st := []) hC 2 dX9_find_28 gX9_find_X9_lookFault rfl (by decide +kernel) ⟨Nat.le_of_ble_eq_true rfl, Nat.le_of_ble_eq_true rfl⟩ rfl (Nat.le_of_ble_eq_true rfl) ⟨Nat.le_of_ble_eq_true rfl, Nat.le_of_ble_eq_true rfl⟩ (c2 := 0) (s2 := 0) rfl rfl (x_lookFault (some (b.1 6 (wh S pj))) none 4 0 (Or.inr ⟨_, 5, _, rfl, (hx0.T hw_p rfl hb_p), Or.inr (Or.inr (Or.inr (Or.inl ⟨rfl, rfl⟩)))⟩) (Or.inl ⟨rfl, rfl⟩)) ?_
          refine g_istore_n (lv' := [(3, .int (nI 1)), (0, .ref M), (1, .int (nI pj)), (2, .int (nI qj))]) hC dX9_find_31 rfl (by decide) rfl ?_
          refine g_aload_n hC dX9_find_32 rfl 1 rfl (Or.inr ⟨_, rfl⟩) ?_
          refine g_get hC (by decide +kernel) rfl (hx0.M hM).1 (hx0.M hM).2 0 (by decide) (by decide +kernel) (Or.inl rfl) rfl dX9_find_33 ?_
          refine g_iload_n hC dX9_find_36 rfl 2 rfl ?_
          refine g_aald hC 5 rfl (hx0.Mp rfl).1 (hx0.Mp rfl).2 (pj) rfl (show pj < 10 by omega) (by decide) dX9_find_37 ?_
          refine g_val (w := .ref (b.1 6 (wh S pj))) (congrArg va_rf hp0_p) ?_
          refine g_S (As := [.ref (b.1 6 (wh S pj))]) (st := []) hC 1 dX9_find_38 gX9_find_X9_asTable rfl (by decide +kernel) ⟨Nat.le_of_ble_eq_true rfl, Nat.le_of_ble_eq_true rfl⟩ rfl (Nat.le_of_ble_eq_true rfl) ⟨Nat.le_of_ble_eq_true rfl, Nat.le_of_ble_eq_true rfl⟩ (c2 := 0) (s2 := 0) rfl rfl (x_asTable (some (b.1 6 (wh S pj))) 4 (Or.inr ⟨_, 5, _, rfl, (hx0.T hw_p rfl hb_p), Or.inr (Or.inr (Or.inr (Or.inl ⟨rfl, rfl⟩)))⟩)) ?_
          refine g_astore (lv' := [(4, .ref (b.1 6 (wh S pj))), (3, .int (nI 1)), (0, .ref M), (1, .int (nI pj)), (2, .int (nI qj))]) hC dX9_find_41 (by decide) rfl (Or.inr ⟨_, rfl⟩) ?_
          refine g_aload_n hC dX9_find_43 rfl 2 rfl (Or.inr ⟨_, rfl⟩) ?_
          refine g_get hC (by decide +kernel) rfl (hx0.M hM).1 (hx0.M hM).2 0 (by decide) (by decide +kernel) (Or.inl rfl) rfl dX9_find_44 ?_
          refine g_iload_n hC dX9_find_47 rfl 4 rfl ?_
          refine g_aald hC 5 rfl (hx0.Mp rfl).1 (hx0.Mp rfl).2 (qj) rfl (show qj < 10 by omega) (by decide) dX9_find_48 ?_
          refine g_val (w := .null) (congrArg va_rf hp0_q) ?_
          refine g_S (As := [.null]) (st := []) hC 1 dX9_find_49 gX9_find_X9_asBytes rfl (by decide +kernel) ⟨Nat.le_of_ble_eq_true rfl, Nat.le_of_ble_eq_true rfl⟩ rfl (Nat.le_of_ble_eq_true rfl) ⟨Nat.le_of_ble_eq_true rfl, Nat.le_of_ble_eq_true rfl⟩ (c2 := 0) (s2 := 0) rfl rfl (x_asBytes none 0 (Or.inl ⟨rfl, rfl⟩)) ?_
          refine g_astore (lv' := [(5, .null), (4, .ref (b.1 6 (wh S pj))), (3, .int (nI 1)), (0, .ref M), (1, .int (nI pj)), (2, .int (nI qj))]) hC dX9_find_52 (by decide) rfl (Or.inl rfl) ?_
          refine g_iload_n hC dX9_find_54 rfl 2 rfl ?_
          refine g_ifN_ne (a := 1) (tgt := 68) hC dX9_find_55 (by decide) (by omega) (fun h55 => ?_) (fun h55 => ?_)
          · refine g_aload_n hC dX9_find_68 rfl 3 rfl (Or.inr ⟨_, rfl⟩) ?_
            refine g_iload_n hC dX9_find_69 rfl 2 rfl ?_
            refine g_Vx (As := [.int (nI 1)]) (st := []) hC 1 dX9_find_70 rfl (hx0.M hM).1 (hx0.M hM).2 gX9_find_X9_failed rfl (by decide +kernel) ⟨Nat.le_of_ble_eq_true rfl, Nat.le_of_ble_eq_true rfl⟩ rfl (Nat.le_of_ble_eq_true rfl) ⟨(Nat.le_of_ble_eq_true rfl), (Nat.le_of_ble_eq_true rfl)⟩ (c2 := 0) (s2 := 0) rfl rfl (x_failed hx0 M hM 1) (fun v1 L1 f1 hp1 => ?_)
            obtain ⟨rfl, hx1⟩ := hp1
            show gW X vwCl 6 L1 f1 0 0 73 [(5, .null), (4, .ref (b.1 6 (wh S pj))), (3, .int (nI 1)), (0, .ref M), (1, .int (nI pj)), (2, .int (nI qj))] [.int (fA 1)]
            have hc_p : castF S pj 4 = 0 := by unfold castF isO; rw [hk_p] <;> decide
            have hc_q : castF S qj 1 = 1 := by unfold castF isO; rw [hk_q] <;> decide
            have hbf : bthF S pj qj 1 = 1 := by unfold bthF; rw [hc_p, hc_q] <;> decide
            have hE : s_find S (nI pj) (nI qj) = (fA 1, (aSc (thS S) 1 1)) := by
              unfold s_find
              rw [if_pos h4, if_pos h11, hpl_p, hpl_q, hbf, if_pos (show 0 < 1 by decide)] <;> rfl
            exact g_iret hC hR dX9_find_73 ⟨b, congrArg (fun z => some (Value.int (Prod.fst z))) hE.symm, by rw [hE]; exact hx1, xG.rf⟩
          · exfalso; omega
        · have hw_q : wh S qj < S.1 4 := hI.wl hqj hk_q
          have hp0_q : plcF (thS S) b qj = some (b.1 0 (wh S qj)) := plc_k hqj hk_q (by decide)
          refine g_aald hC 5 rfl (hx0.Mp rfl).1 (hx0.Mp rfl).2 (qj) rfl (show qj < 10 by omega) (by decide) dX9_find_27 ?_
          refine g_val (w := .ref (b.1 0 (wh S qj))) (congrArg va_rf hp0_q) ?_
          refine g_S (As := [.ref (b.1 6 (wh S pj)), .ref (b.1 0 (wh S qj))]) (st := []) hC 2 dX9_find_28 gX9_find_X9_lookFault rfl (by decide +kernel) ⟨Nat.le_of_ble_eq_true rfl, Nat.le_of_ble_eq_true rfl⟩ rfl (Nat.le_of_ble_eq_true rfl) ⟨Nat.le_of_ble_eq_true rfl, Nat.le_of_ble_eq_true rfl⟩ (c2 := 0) (s2 := 0) rfl rfl (x_lookFault (some (b.1 6 (wh S pj))) (some (b.1 0 (wh S qj))) 4 1 (Or.inr ⟨_, 5, _, rfl, (hx0.T hw_p rfl hb_p), Or.inr (Or.inr (Or.inr (Or.inl ⟨rfl, rfl⟩)))⟩) (Or.inr ⟨_, 0, _, rfl, (hx0.B hw_q rfl), Or.inl ⟨rfl, rfl⟩⟩)) ?_
          refine g_istore_n (lv' := [(3, .int (nI 0)), (0, .ref M), (1, .int (nI pj)), (2, .int (nI qj))]) hC dX9_find_31 rfl (by decide) rfl ?_
          refine g_aload_n hC dX9_find_32 rfl 1 rfl (Or.inr ⟨_, rfl⟩) ?_
          refine g_get hC (by decide +kernel) rfl (hx0.M hM).1 (hx0.M hM).2 0 (by decide) (by decide +kernel) (Or.inl rfl) rfl dX9_find_33 ?_
          refine g_iload_n hC dX9_find_36 rfl 2 rfl ?_
          refine g_aald hC 5 rfl (hx0.Mp rfl).1 (hx0.Mp rfl).2 (pj) rfl (show pj < 10 by omega) (by decide) dX9_find_37 ?_
          refine g_val (w := .ref (b.1 6 (wh S pj))) (congrArg va_rf hp0_p) ?_
          refine g_S (As := [.ref (b.1 6 (wh S pj))]) (st := []) hC 1 dX9_find_38 gX9_find_X9_asTable rfl (by decide +kernel) ⟨Nat.le_of_ble_eq_true rfl, Nat.le_of_ble_eq_true rfl⟩ rfl (Nat.le_of_ble_eq_true rfl) ⟨Nat.le_of_ble_eq_true rfl, Nat.le_of_ble_eq_true rfl⟩ (c2 := 0) (s2 := 0) rfl rfl (x_asTable (some (b.1 6 (wh S pj))) 4 (Or.inr ⟨_, 5, _, rfl, (hx0.T hw_p rfl hb_p), Or.inr (Or.inr (Or.inr (Or.inl ⟨rfl, rfl⟩)))⟩)) ?_
          refine g_astore (lv' := [(4, .ref (b.1 6 (wh S pj))), (3, .int (nI 0)), (0, .ref M), (1, .int (nI pj)), (2, .int (nI qj))]) hC dX9_find_41 (by decide) rfl (Or.inr ⟨_, rfl⟩) ?_
          refine g_aload_n hC dX9_find_43 rfl 2 rfl (Or.inr ⟨_, rfl⟩) ?_
          refine g_get hC (by decide +kernel) rfl (hx0.M hM).1 (hx0.M hM).2 0 (by decide) (by decide +kernel) (Or.inl rfl) rfl dX9_find_44 ?_
          refine g_iload_n hC dX9_find_47 rfl 4 rfl ?_
          refine g_aald hC 5 rfl (hx0.Mp rfl).1 (hx0.Mp rfl).2 (qj) rfl (show qj < 10 by omega) (by decide) dX9_find_48 ?_
          refine g_val (w := .ref (b.1 0 (wh S qj))) (congrArg va_rf hp0_q) ?_
          refine g_S (As := [.ref (b.1 0 (wh S qj))]) (st := []) hC 1 dX9_find_49 gX9_find_X9_asBytes rfl (by decide +kernel) ⟨Nat.le_of_ble_eq_true rfl, Nat.le_of_ble_eq_true rfl⟩ rfl (Nat.le_of_ble_eq_true rfl) ⟨Nat.le_of_ble_eq_true rfl, Nat.le_of_ble_eq_true rfl⟩ (c2 := 0) (s2 := 0) rfl rfl (x_asBytes (some (b.1 0 (wh S qj))) 1 (Or.inr ⟨_, 0, _, rfl, (hx0.B hw_q rfl), Or.inl ⟨rfl, rfl⟩⟩)) ?_
          refine g_astore (lv' := [(5, .ref (b.1 0 (wh S qj))), (4, .ref (b.1 6 (wh S pj))), (3, .int (nI 0)), (0, .ref M), (1, .int (nI pj)), (2, .int (nI qj))]) hC dX9_find_52 (by decide) rfl (Or.inr ⟨_, rfl⟩) ?_
          refine g_iload_n hC dX9_find_54 rfl 2 rfl ?_
          refine g_ifN_ne (a := 0) (tgt := 68) hC dX9_find_55 (by decide) (by omega) (fun h55 => ?_) (fun h55 => ?_)
          · exfalso; omega
          · refine g_aload hC dX9_find_58 1 rfl (Or.inr ⟨_, rfl⟩) ?_
            refine g_ifnull (o := some (b.1 6 (wh S pj))) (tgt := 68) hC dX9_find_60 (by decide) (fun h60 => ?_) (fun a60 h60 => ?_)
            · cases h60
            · refine g_aload hC dX9_find_63 0 rfl (Or.inr ⟨_, rfl⟩) ?_
              refine g_ifnonnull (o := some (b.1 0 (wh S qj))) (tgt := 74) hC dX9_find_65 (by decide) (fun a65 h65 => ?_) (fun h65 => ?_)
              · refine g_aload_n hC dX9_find_74 rfl 3 rfl (Or.inr ⟨_, rfl⟩) ?_
                refine g_aload hC dX9_find_75 1 rfl (Or.inr ⟨_, rfl⟩) ?_
                refine g_aload hC dX9_find_77 1 rfl (Or.inr ⟨_, rfl⟩) ?_
                refine g_aload hC dX9_find_79 0 rfl (Or.inr ⟨_, rfl⟩) ?_
                refine g_Vx (As := [.ref (b.1 0 (wh S qj))]) (st := [.ref (b.1 6 (wh S pj)), .ref M]) hC 1 dX9_find_81 rfl (hx0.T hw_p rfl hb_p).1 (hx0.T hw_p rfl hb_p).2 gX9_find_X7_numberOf rfl (by decide +kernel) ⟨Nat.le_of_ble_eq_true rfl, Nat.le_of_ble_eq_true rfl⟩ rfl (Nat.le_of_ble_eq_true rfl) ⟨(Nat.le_of_ble_eq_true rfl), (Nat.le_of_ble_eq_true rfl)⟩ (c2 := 0) (s2 := 0) rfl rfl (x_numberOf_T (S := thS S) hx0 _ _ hw_p rfl hb_p _ _ hw_q rfl (fun r hr => hI.bl hr) htk0) (fun v1 L1 f1 hp1 => ?_)
                obtain ⟨rfl, hx1⟩ := hp1
                show gW X vwCl 6 L1 f1 0 0 84 [(5, .ref (b.1 0 (wh S qj))), (4, .ref (b.1 6 (wh S pj))), (3, .int (nI 0)), (0, .ref M), (1, .int (nI pj)), (2, .int (nI qj))] [.int (slv (S.2.1 19 (256 * wh S pj + (lk (thS S) (wh S pj) (wh S qj)).1))), .ref (b.1 6 (wh S pj)), .ref M]
                have h17 : (aN (thS S) 17 (wh S pj) (lk (thS S) (wh S pj) (wh S qj)).2).2.1 17 (wh S pj) = (lk (thS S) (wh S pj) (wh S qj)).2 := by show va_up (S.2.1 17) _ _ _ = _; exact va_up_self _ _ _
                have hlb := lk_b (S := thS S) (r := wh S qj) htk0
                have hlb : (lk (thS S) (wh S pj) (wh S qj)).2 ≤ S.2.1 15 (wh S pj) := hlb
                refine g_Vx (As := [.ref (b.1 6 (wh S pj)), .int (slv (S.2.1 19 (256 * wh S pj + (lk (thS S) (wh S pj) (wh S qj)).1)))]) (st := []) hC 2 dX9_find_84 rfl (hx1.M hM).1 (hx1.M hM).2 gX9_find_X9_counted rfl (by decide +kernel) ⟨Nat.le_of_ble_eq_true rfl, Nat.le_of_ble_eq_true rfl⟩ rfl (Nat.le_of_ble_eq_true rfl) ⟨(Nat.le_of_ble_eq_true rfl), (Nat.le_of_ble_eq_true rfl)⟩ (c2 := 0) (s2 := 0) rfl rfl (x_counted_T (S := aN (thS S) 17 (wh S pj) (lk (thS S) (wh S pj) (wh S qj)).2) hx1 M hM _ _ hw_p rfl hb_p _ (by rw [h17]; omega)) (fun v2 L2 f2 hp2 => ?_)
                obtain ⟨rfl, hx2⟩ := hp2
                show gW X vwCl 6 L2 f2 0 0 87 [(5, .ref (b.1 0 (wh S qj))), (4, .ref (b.1 6 (wh S pj))), (3, .int (nI 0)), (0, .ref M), (1, .int (nI pj)), (2, .int (nI qj))] [.int (slv (S.2.1 19 (256 * wh S pj + (lk (thS S) (wh S pj) (wh S qj)).1)))]
                have hc_p : castF S pj 4 = 0 := by unfold castF isO; rw [hk_p] <;> decide
                have hc_q : castF S qj 1 = 0 := by unfold castF isO; rw [hk_q] <;> decide
                have hbf : bthF S pj qj 1 = 0 := by unfold bthF; rw [hc_p, hc_q] <;> decide
                have hsl : slv (S.2.1 19 (256 * wh S pj + (lk (thS S) (wh S pj) (wh S qj)).1)) = if 0 < S.2.1 19 (256 * wh S pj + (lk (thS S) (wh S pj) (wh S qj)).1) then nI (S.2.1 19 (256 * wh S pj + (lk (thS S) (wh S pj) (wh S qj)).1) - 1) else -3 := by
                  unfold slv
                  by_cases e : S.2.1 19 (256 * wh S pj + (lk (thS S) (wh S pj) (wh S qj)).1) = 0
                  · rw [if_pos e, if_neg (by omega)]
                  · rw [if_neg e, if_pos (by omega)]
                rw [h17] at hx2
                refine g_val (congrArg Value.int hsl) ?_
                have hE : s_find S (nI pj) (nI qj) = (if 0 < S.2.1 19 (256 * wh S pj + (lk (thS S) (wh S pj) (wh S qj)).1) then nI (S.2.1 19 (256 * wh S pj + (lk (thS S) (wh S pj) (wh S qj)).1) - 1) else -3, lkS (thS S) (wh S pj) (wh S qj)) := by
                  unfold s_find
                  rw [if_pos h4, if_pos h11, hpl_p, hpl_q, hbf, if_neg (show ¬ 0 < 0 by decide)] <;> rfl
                exact g_iret hC hR dX9_find_87 ⟨b, congrArg (fun z => some (Value.int (Prod.fst z))) hE.symm, by rw [hE]; exact hx2, xG.rf⟩
              · cases h65
        · have hw_q : wh S qj < S.1 7 := hI.ws hqj hk_q
          have hp0_q : plcF (thS S) b qj = some (b.1 2 (wh S qj)) := plc_k hqj hk_q (by decide)
          refine g_aald hC 5 rfl (hx0.Mp rfl).1 (hx0.Mp rfl).2 (qj) rfl (show qj < 10 by omega) (by decide) dX9_find_27 ?_
          refine g_val (w := .ref (b.1 2 (wh S qj))) (congrArg va_rf hp0_q) ?_
          refine g_S (As := [.ref (b.1 6 (wh S pj)), .ref (b.1 2 (wh S qj))]) (st := []) hC 2 dX9_find_28 gX9_find_X9_lookFault rfl (by decide +kernel) ⟨Nat.le_of_ble_eq_true rfl, Nat.le_of_ble_eq_true rfl⟩ rfl (Nat.le_of_ble_eq_true rfl) ⟨Nat.le_of_ble_eq_true rfl, Nat.le_of_ble_eq_true rfl⟩ (c2 := 0) (s2 := 0) rfl rfl (x_lookFault (some (b.1 6 (wh S pj))) (some (b.1 2 (wh S qj))) 4 2 (Or.inr ⟨_, 5, _, rfl, (hx0.T hw_p rfl hb_p), Or.inr (Or.inr (Or.inr (Or.inl ⟨rfl, rfl⟩)))⟩) (Or.inr ⟨_, 4, _, rfl, (hx0.G hw_q rfl), Or.inr (Or.inl ⟨rfl, rfl⟩)⟩)) ?_
          refine g_istore_n (lv' := [(3, .int (nI 2)), (0, .ref M), (1, .int (nI pj)), (2, .int (nI qj))]) hC dX9_find_31 rfl (by decide) rfl ?_
          refine g_aload_n hC dX9_find_32 rfl 1 rfl (Or.inr ⟨_, rfl⟩) ?_
          refine g_get hC (by decide +kernel) rfl (hx0.M hM).1 (hx0.M hM).2 0 (by decide) (by decide +kernel) (Or.inl rfl) rfl dX9_find_33 ?_
          refine g_iload_n hC dX9_find_36 rfl 2 rfl ?_
          refine g_aald hC 5 rfl (hx0.Mp rfl).1 (hx0.Mp rfl).2 (pj) rfl (show pj < 10 by omega) (by decide) dX9_find_37 ?_
          refine g_val (w := .ref (b.1 6 (wh S pj))) (congrArg va_rf hp0_p) ?_
          refine g_S (As := [.ref (b.1 6 (wh S pj))]) (st := []) hC 1 dX9_find_38 gX9_find_X9_asTable rfl (by decide +kernel) ⟨Nat.le_of_ble_eq_true rfl, Nat.le_of_ble_eq_true rfl⟩ rfl (Nat.le_of_ble_eq_true rfl) ⟨Nat.le_of_ble_eq_true rfl, Nat.le_of_ble_eq_true rfl⟩ (c2 := 0) (s2 := 0) rfl rfl (x_asTable (some (b.1 6 (wh S pj))) 4 (Or.inr ⟨_, 5, _, rfl, (hx0.T hw_p rfl hb_p), Or.inr (Or.inr (Or.inr (Or.inl ⟨rfl, rfl⟩)))⟩)) ?_
          refine g_astore (lv' := [(4, .ref (b.1 6 (wh S pj))), (3, .int (nI 2)), (0, .ref M), (1, .int (nI pj)), (2, .int (nI qj))]) hC dX9_find_41 (by decide) rfl (Or.inr ⟨_, rfl⟩) ?_
          refine g_aload_n hC dX9_find_43 rfl 2 rfl (Or.inr ⟨_, rfl⟩) ?_
          refine g_get hC (by decide +kernel) rfl (hx0.M hM).1 (hx0.M hM).2 0 (by decide) (by decide +kernel) (Or.inl rfl) rfl dX9_find_44 ?_
          refine g_iload_n hC dX9_find_47 rfl 4 rfl ?_
          refine g_aald hC 5 rfl (hx0.Mp rfl).1 (hx0.Mp rfl).2 (qj) rfl (show qj < 10 by omega) (by decide) dX9_find_48 ?_
          refine g_val (w := .ref (b.1 2 (wh S qj))) (congrArg va_rf hp0_q) ?_
          refine g_S (As := [.ref (b.1 2 (wh S qj))]) (st := []) hC 1 dX9_find_49 gX9_find_X9_asBytes rfl (by decide +kernel) ⟨Nat.le_of_ble_eq_true rfl, Nat.le_of_ble_eq_true rfl⟩ rfl (Nat.le_of_ble_eq_true rfl) ⟨Nat.le_of_ble_eq_true rfl, Nat.le_of_ble_eq_true rfl⟩ (c2 := 0) (s2 := 0) rfl rfl (x_asBytes (some (b.1 2 (wh S qj))) 2 (Or.inr ⟨_, 4, _, rfl, (hx0.G hw_q rfl), Or.inr (Or.inl ⟨rfl, rfl⟩)⟩)) ?_
          refine g_astore (lv' := [(5, .null), (4, .ref (b.1 6 (wh S pj))), (3, .int (nI 2)), (0, .ref M), (1, .int (nI pj)), (2, .int (nI qj))]) hC dX9_find_52 (by decide) rfl (Or.inl rfl) ?_
          refine g_iload_n hC dX9_find_54 rfl 2 rfl ?_
          refine g_ifN_ne (a := 2) (tgt := 68) hC dX9_find_55 (by decide) (by omega) (fun h55 => ?_) (fun h55 => ?_)
          · refine g_aload_n hC dX9_find_68 rfl 3 rfl (Or.inr ⟨_, rfl⟩) ?_
            refine g_iload_n hC dX9_find_69 rfl 2 rfl ?_
            refine g_Vx (As := [.int (nI 2)]) (st := []) hC 1 dX9_find_70 rfl (hx0.M hM).1 (hx0.M hM).2 gX9_find_X9_failed rfl (by decide +kernel) ⟨Nat.le_of_ble_eq_true rfl, Nat.le_of_ble_eq_true rfl⟩ rfl (Nat.le_of_ble_eq_true rfl) ⟨(Nat.le_of_ble_eq_true rfl), (Nat.le_of_ble_eq_true rfl)⟩ (c2 := 0) (s2 := 0) rfl rfl (x_failed hx0 M hM 2) (fun v1 L1 f1 hp1 => ?_)
            obtain ⟨rfl, hx1⟩ := hp1
            show gW X vwCl 6 L1 f1 0 0 73 [(5, .null), (4, .ref (b.1 6 (wh S pj))), (3, .int (nI 2)), (0, .ref M), (1, .int (nI pj)), (2, .int (nI qj))] [.int (fA 2)]
            have hc_p : castF S pj 4 = 0 := by unfold castF isO; rw [hk_p] <;> decide
            have hc_q : castF S qj 1 = 2 := by unfold castF isO; rw [hk_q] <;> decide
            have hbf : bthF S pj qj 1 = 2 := by unfold bthF; rw [hc_p, hc_q] <;> decide
            have hE : s_find S (nI pj) (nI qj) = (fA 2, (aSc (thS S) 1 2)) := by
              unfold s_find
              rw [if_pos h4, if_pos h11, hpl_p, hpl_q, hbf, if_pos (show 0 < 2 by decide)] <;> rfl
            exact g_iret hC hR dX9_find_73 ⟨b, congrArg (fun z => some (Value.int (Prod.fst z))) hE.symm, by rw [hE]; exact hx1, xG.rf⟩
          · exfalso; omega
        · have hw_q : wh S qj < S.1 10 := hI.wr hqj hk_q
          have hp0_q : plcF (thS S) b qj = some (b.1 4 (wh S qj)) := plc_k hqj hk_q (by decide)
          refine g_aald hC 5 rfl (hx0.Mp rfl).1 (hx0.Mp rfl).2 (qj) rfl (show qj < 10 by omega) (by decide) dX9_find_27 ?_
          refine g_val (w := .ref (b.1 4 (wh S qj))) (congrArg va_rf hp0_q) ?_
          refine g_S (As := [.ref (b.1 6 (wh S pj)), .ref (b.1 4 (wh S qj))]) (st := []) hC 2 dX9_find_28 gX9_find_X9_lookFault rfl (by decide +kernel) ⟨Nat.le_of_ble_eq_true rfl, Nat.le_of_ble_eq_true rfl⟩ rfl (Nat.le_of_ble_eq_true rfl) ⟨Nat.le_of_ble_eq_true rfl, Nat.le_of_ble_eq_true rfl⟩ (c2 := 0) (s2 := 0) rfl rfl (x_lookFault (some (b.1 6 (wh S pj))) (some (b.1 4 (wh S qj))) 4 3 (Or.inr ⟨_, 5, _, rfl, (hx0.T hw_p rfl hb_p), Or.inr (Or.inr (Or.inr (Or.inl ⟨rfl, rfl⟩)))⟩) (Or.inr ⟨_, 3, _, rfl, (hx0.W hw_q rfl), Or.inr (Or.inr (Or.inl ⟨rfl, rfl⟩))⟩)) ?_
          refine g_istore_n (lv' := [(3, .int (nI 2)), (0, .ref M), (1, .int (nI pj)), (2, .int (nI qj))]) hC dX9_find_31 rfl (by decide) rfl ?_
          refine g_aload_n hC dX9_find_32 rfl 1 rfl (Or.inr ⟨_, rfl⟩) ?_
          refine g_get hC (by decide +kernel) rfl (hx0.M hM).1 (hx0.M hM).2 0 (by decide) (by decide +kernel) (Or.inl rfl) rfl dX9_find_33 ?_
          refine g_iload_n hC dX9_find_36 rfl 2 rfl ?_
          refine g_aald hC 5 rfl (hx0.Mp rfl).1 (hx0.Mp rfl).2 (pj) rfl (show pj < 10 by omega) (by decide) dX9_find_37 ?_
          refine g_val (w := .ref (b.1 6 (wh S pj))) (congrArg va_rf hp0_p) ?_
          refine g_S (As := [.ref (b.1 6 (wh S pj))]) (st := []) hC 1 dX9_find_38 gX9_find_X9_asTable rfl (by decide +kernel) ⟨Nat.le_of_ble_eq_true rfl, Nat.le_of_ble_eq_true rfl⟩ rfl (Nat.le_of_ble_eq_true rfl) ⟨Nat.le_of_ble_eq_true rfl, Nat.le_of_ble_eq_true rfl⟩ (c2 := 0) (s2 := 0) rfl rfl (x_asTable (some (b.1 6 (wh S pj))) 4 (Or.inr ⟨_, 5, _, rfl, (hx0.T hw_p rfl hb_p), Or.inr (Or.inr (Or.inr (Or.inl ⟨rfl, rfl⟩)))⟩)) ?_
          refine g_astore (lv' := [(4, .ref (b.1 6 (wh S pj))), (3, .int (nI 2)), (0, .ref M), (1, .int (nI pj)), (2, .int (nI qj))]) hC dX9_find_41 (by decide) rfl (Or.inr ⟨_, rfl⟩) ?_
          refine g_aload_n hC dX9_find_43 rfl 2 rfl (Or.inr ⟨_, rfl⟩) ?_
          refine g_get hC (by decide +kernel) rfl (hx0.M hM).1 (hx0.M hM).2 0 (by decide) (by decide +kernel) (Or.inl rfl) rfl dX9_find_44 ?_
          refine g_iload_n hC dX9_find_47 rfl 4 rfl ?_
          refine g_aald hC 5 rfl (hx0.Mp rfl).1 (hx0.Mp rfl).2 (qj) rfl (show qj < 10 by omega) (by decide) dX9_find_48 ?_
          refine g_val (w := .ref (b.1 4 (wh S qj))) (congrArg va_rf hp0_q) ?_
          refine g_S (As := [.ref (b.1 4 (wh S qj))]) (st := []) hC 1 dX9_find_49 gX9_find_X9_asBytes rfl (by decide +kernel) ⟨Nat.le_of_ble_eq_true rfl, Nat.le_of_ble_eq_true rfl⟩ rfl (Nat.le_of_ble_eq_true rfl) ⟨Nat.le_of_ble_eq_true rfl, Nat.le_of_ble_eq_true rfl⟩ (c2 := 0) (s2 := 0) rfl rfl (x_asBytes (some (b.1 4 (wh S qj))) 3 (Or.inr ⟨_, 3, _, rfl, (hx0.W hw_q rfl), Or.inr (Or.inr (Or.inl ⟨rfl, rfl⟩))⟩)) ?_
          refine g_astore (lv' := [(5, .null), (4, .ref (b.1 6 (wh S pj))), (3, .int (nI 2)), (0, .ref M), (1, .int (nI pj)), (2, .int (nI qj))]) hC dX9_find_52 (by decide) rfl (Or.inl rfl) ?_
          refine g_iload_n hC dX9_find_54 rfl 2 rfl ?_
          refine g_ifN_ne (a := 2) (tgt := 68) hC dX9_find_55 (by decide) (by omega) (fun h55 => ?_) (fun h55 => ?_)
          · refine g_aload_n hC dX9_find_68 rfl 3 rfl (Or.inr ⟨_, rfl⟩) ?_
            refine g_iload_n hC dX9_find_69 rfl 2 rfl ?_
            refine g_Vx (As := [.int (nI 2)]) (st := []) hC 1 dX9_find_70 rfl (hx0.M hM).1 (hx0.M hM).2 gX9_find_X9_failed rfl (by decide +kernel) ⟨Nat.le_of_ble_eq_true rfl, Nat.le_of_ble_eq_true rfl⟩ rfl (Nat.le_of_ble_eq_true rfl) ⟨(Nat.le_of_ble_eq_true rfl), (Nat.le_of_ble_eq_true rfl)⟩ (c2 := 0) (s2 := 0) rfl rfl (x_failed hx0 M hM 2) (fun v1 L1 f1 hp1 => ?_)
            obtain ⟨rfl, hx1⟩ := hp1
            show gW X vwCl 6 L1 f1 0 0 73 [(5, .null), (4, .ref (b.1 6 (wh S pj))), (3, .int (nI 2)), (0, .ref M), (1, .int (nI pj)), (2, .int (nI qj))] [.int (fA 2)]
            have hc_p : castF S pj 4 = 0 := by unfold castF isO; rw [hk_p] <;> decide
            have hc_q : castF S qj 1 = 2 := by unfold castF isO; rw [hk_q] <;> decide
            have hbf : bthF S pj qj 1 = 2 := by unfold bthF; rw [hc_p, hc_q] <;> decide
            have hE : s_find S (nI pj) (nI qj) = (fA 2, (aSc (thS S) 1 2)) := by
              unfold s_find
              rw [if_pos h4, if_pos h11, hpl_p, hpl_q, hbf, if_pos (show 0 < 2 by decide)] <;> rfl
            exact g_iret hC hR dX9_find_73 ⟨b, congrArg (fun z => some (Value.int (Prod.fst z))) hE.symm, by rw [hE]; exact hx1, xG.rf⟩
          · exfalso; omega
        · have hw_q : wh S qj < S.1 13 := hI.wt hqj (by omega)
          have hb_q : S.2.1 14 (wh S qj) = 0 := by have := ((hI.2.1 _ hqj).2.2.2.2.2 (by omega)).2; omega
          have hp0_q : plcF (thS S) b qj = some (b.1 6 (wh S qj)) := plc_k hqj hk_q (by decide)
          refine g_aald hC 5 rfl (hx0.Mp rfl).1 (hx0.Mp rfl).2 (qj) rfl (show qj < 10 by omega) (by decide) dX9_find_27 ?_
          refine g_val (w := .ref (b.1 6 (wh S qj))) (congrArg va_rf hp0_q) ?_
          refine g_S (As := [.ref (b.1 6 (wh S pj)), .ref (b.1 6 (wh S qj))]) (st := []) hC 2 dX9_find_28 gX9_find_X9_lookFault rfl (by decide +kernel) ⟨Nat.le_of_ble_eq_true rfl, Nat.le_of_ble_eq_true rfl⟩ rfl (Nat.le_of_ble_eq_true rfl) ⟨Nat.le_of_ble_eq_true rfl, Nat.le_of_ble_eq_true rfl⟩ (c2 := 0) (s2 := 0) rfl rfl (x_lookFault (some (b.1 6 (wh S pj))) (some (b.1 6 (wh S qj))) 4 4 (Or.inr ⟨_, 5, _, rfl, (hx0.T hw_p rfl hb_p), Or.inr (Or.inr (Or.inr (Or.inl ⟨rfl, rfl⟩)))⟩) (Or.inr ⟨_, 5, _, rfl, (hx0.T hw_q rfl hb_q), Or.inr (Or.inr (Or.inr (Or.inl ⟨rfl, rfl⟩)))⟩)) ?_
          refine g_istore_n (lv' := [(3, .int (nI 2)), (0, .ref M), (1, .int (nI pj)), (2, .int (nI qj))]) hC dX9_find_31 rfl (by decide) rfl ?_
          refine g_aload_n hC dX9_find_32 rfl 1 rfl (Or.inr ⟨_, rfl⟩) ?_
          refine g_get hC (by decide +kernel) rfl (hx0.M hM).1 (hx0.M hM).2 0 (by decide) (by decide +kernel) (Or.inl rfl) rfl dX9_find_33 ?_
          refine g_iload_n hC dX9_find_36 rfl 2 rfl ?_
          refine g_aald hC 5 rfl (hx0.Mp rfl).1 (hx0.Mp rfl).2 (pj) rfl (show pj < 10 by omega) (by decide) dX9_find_37 ?_
          refine g_val (w := .ref (b.1 6 (wh S pj))) (congrArg va_rf hp0_p) ?_
          refine g_S (As := [.ref (b.1 6 (wh S pj))]) (st := []) hC 1 dX9_find_38 gX9_find_X9_asTable rfl (by decide +kernel) ⟨Nat.le_of_ble_eq_true rfl, Nat.le_of_ble_eq_true rfl⟩ rfl (Nat.le_of_ble_eq_true rfl) ⟨Nat.le_of_ble_eq_true rfl, Nat.le_of_ble_eq_true rfl⟩ (c2 := 0) (s2 := 0) rfl rfl (x_asTable (some (b.1 6 (wh S pj))) 4 (Or.inr ⟨_, 5, _, rfl, (hx0.T hw_p rfl hb_p), Or.inr (Or.inr (Or.inr (Or.inl ⟨rfl, rfl⟩)))⟩)) ?_
          refine g_astore (lv' := [(4, .ref (b.1 6 (wh S pj))), (3, .int (nI 2)), (0, .ref M), (1, .int (nI pj)), (2, .int (nI qj))]) hC dX9_find_41 (by decide) rfl (Or.inr ⟨_, rfl⟩) ?_
          refine g_aload_n hC dX9_find_43 rfl 2 rfl (Or.inr ⟨_, rfl⟩) ?_
          refine g_get hC (by decide +kernel) rfl (hx0.M hM).1 (hx0.M hM).2 0 (by decide) (by decide +kernel) (Or.inl rfl) rfl dX9_find_44 ?_
          refine g_iload_n hC dX9_find_47 rfl 4 rfl ?_
          refine g_aald hC 5 rfl (hx0.Mp rfl).1 (hx0.Mp rfl).2 (qj) rfl (show qj < 10 by omega) (by decide) dX9_find_48 ?_
          refine g_val (w := .ref (b.1 6 (wh S qj))) (congrArg va_rf hp0_q) ?_
          refine g_S (As := [.ref (b.1 6 (wh S qj))]) (st := []) hC 1 dX9_find_49 gX9_find_X9_asBytes rfl (by decide +kernel) ⟨Nat.le_of_ble_eq_true rfl, Nat.le_of_ble_eq_true rfl⟩ rfl (Nat.le_of_ble_eq_true rfl) ⟨Nat.le_of_ble_eq_true rfl, Nat.le_of_ble_eq_true rfl⟩ (c2 := 0) (s2 := 0) rfl rfl (x_asBytes (some (b.1 6 (wh S qj))) 4 (Or.inr ⟨_, 5, _, rfl, (hx0.T hw_q rfl hb_q), Or.inr (Or.inr (Or.inr (Or.inl ⟨rfl, rfl⟩)))⟩)) ?_
          refine g_astore (lv' := [(5, .null), (4, .ref (b.1 6 (wh S pj))), (3, .int (nI 2)), (0, .ref M), (1, .int (nI pj)), (2, .int (nI qj))]) hC dX9_find_52 (by decide) rfl (Or.inl rfl) ?_
          refine g_iload_n hC dX9_find_54 rfl 2 rfl ?_
          refine g_ifN_ne (a := 2) (tgt := 68) hC dX9_find_55 (by decide) (by omega) (fun h55 => ?_) (fun h55 => ?_)
          · refine g_aload_n hC dX9_find_68 rfl 3 rfl (Or.inr ⟨_, rfl⟩) ?_
            refine g_iload_n hC dX9_find_69 rfl 2 rfl ?_
            refine g_Vx (As := [.int (nI 2)]) (st := []) hC 1 dX9_find_70 rfl (hx0.M hM).1 (hx0.M hM).2 gX9_find_X9_failed rfl (by decide +kernel) ⟨Nat.le_of_ble_eq_true rfl, Nat.le_of_ble_eq_true rfl⟩ rfl (Nat.le_of_ble_eq_true rfl) ⟨(Nat.le_of_ble_eq_true rfl), (Nat.le_of_ble_eq_true rfl)⟩ (c2 := 0) (s2 := 0) rfl rfl (x_failed hx0 M hM 2) (fun v1 L1 f1 hp1 => ?_)
            obtain ⟨rfl, hx1⟩ := hp1
            show gW X vwCl 6 L1 f1 0 0 73 [(5, .null), (4, .ref (b.1 6 (wh S pj))), (3, .int (nI 2)), (0, .ref M), (1, .int (nI pj)), (2, .int (nI qj))] [.int (fA 2)]
            have hc_p : castF S pj 4 = 0 := by unfold castF isO; rw [hk_p] <;> decide
            have hc_q : castF S qj 1 = 2 := by unfold castF isO; rw [hk_q] <;> decide
            have hbf : bthF S pj qj 1 = 2 := by unfold bthF; rw [hc_p, hc_q] <;> decide
            have hE : s_find S (nI pj) (nI qj) = (fA 2, (aSc (thS S) 1 2)) := by
              unfold s_find
              rw [if_pos h4, if_pos h11, hpl_p, hpl_q, hbf, if_pos (show 0 < 2 by decide)] <;> rfl
            exact g_iret hC hR dX9_find_73 ⟨b, congrArg (fun z => some (Value.int (Prod.fst z))) hE.symm, by rw [hE]; exact hx1, xG.rf⟩
          · exfalso; omega
        · have hw_q : wh S qj < S.1 13 := hI.wt hqj (by omega)
          have hb_q : S.2.1 14 (wh S qj) ≠ 0 := by have := ((hI.2.1 _ hqj).2.2.2.2.2 (by omega)).2; omega
          have hp0_q : plcF (thS S) b qj = some (b.1 6 (wh S qj)) := plc_k hqj hk_q (by decide)
          refine g_aald hC 5 rfl (hx0.Mp rfl).1 (hx0.Mp rfl).2 (qj) rfl (show qj < 10 by omega) (by decide) dX9_find_27 ?_
          refine g_val (w := .ref (b.1 6 (wh S qj))) (congrArg va_rf hp0_q) ?_
          refine g_S (As := [.ref (b.1 6 (wh S pj)), .ref (b.1 6 (wh S qj))]) (st := []) hC 2 dX9_find_28 gX9_find_X9_lookFault rfl (by decide +kernel) ⟨Nat.le_of_ble_eq_true rfl, Nat.le_of_ble_eq_true rfl⟩ rfl (Nat.le_of_ble_eq_true rfl) ⟨Nat.le_of_ble_eq_true rfl, Nat.le_of_ble_eq_true rfl⟩ (c2 := 0) (s2 := 0) rfl rfl (x_lookFault (some (b.1 6 (wh S pj))) (some (b.1 6 (wh S qj))) 4 5 (Or.inr ⟨_, 5, _, rfl, (hx0.T hw_p rfl hb_p), Or.inr (Or.inr (Or.inr (Or.inl ⟨rfl, rfl⟩)))⟩) (Or.inr ⟨_, 1, _, rfl, (hx0.K hw_q rfl hb_q), Or.inr (Or.inr (Or.inr (Or.inr ⟨rfl, rfl⟩)))⟩)) ?_
          refine g_istore_n (lv' := [(3, .int (nI 2)), (0, .ref M), (1, .int (nI pj)), (2, .int (nI qj))]) hC dX9_find_31 rfl (by decide) rfl ?_
          refine g_aload_n hC dX9_find_32 rfl 1 rfl (Or.inr ⟨_, rfl⟩) ?_
          refine g_get hC (by decide +kernel) rfl (hx0.M hM).1 (hx0.M hM).2 0 (by decide) (by decide +kernel) (Or.inl rfl) rfl dX9_find_33 ?_
          refine g_iload_n hC dX9_find_36 rfl 2 rfl ?_
          refine g_aald hC 5 rfl (hx0.Mp rfl).1 (hx0.Mp rfl).2 (pj) rfl (show pj < 10 by omega) (by decide) dX9_find_37 ?_
          refine g_val (w := .ref (b.1 6 (wh S pj))) (congrArg va_rf hp0_p) ?_
          refine g_S (As := [.ref (b.1 6 (wh S pj))]) (st := []) hC 1 dX9_find_38 gX9_find_X9_asTable rfl (by decide +kernel) ⟨Nat.le_of_ble_eq_true rfl, Nat.le_of_ble_eq_true rfl⟩ rfl (Nat.le_of_ble_eq_true rfl) ⟨Nat.le_of_ble_eq_true rfl, Nat.le_of_ble_eq_true rfl⟩ (c2 := 0) (s2 := 0) rfl rfl (x_asTable (some (b.1 6 (wh S pj))) 4 (Or.inr ⟨_, 5, _, rfl, (hx0.T hw_p rfl hb_p), Or.inr (Or.inr (Or.inr (Or.inl ⟨rfl, rfl⟩)))⟩)) ?_
          refine g_astore (lv' := [(4, .ref (b.1 6 (wh S pj))), (3, .int (nI 2)), (0, .ref M), (1, .int (nI pj)), (2, .int (nI qj))]) hC dX9_find_41 (by decide) rfl (Or.inr ⟨_, rfl⟩) ?_
          refine g_aload_n hC dX9_find_43 rfl 2 rfl (Or.inr ⟨_, rfl⟩) ?_
          refine g_get hC (by decide +kernel) rfl (hx0.M hM).1 (hx0.M hM).2 0 (by decide) (by decide +kernel) (Or.inl rfl) rfl dX9_find_44 ?_
          refine g_iload_n hC dX9_find_47 rfl 4 rfl ?_
          refine g_aald hC 5 rfl (hx0.Mp rfl).1 (hx0.Mp rfl).2 (qj) rfl (show qj < 10 by omega) (by decide) dX9_find_48 ?_
          refine g_val (w := .ref (b.1 6 (wh S qj))) (congrArg va_rf hp0_q) ?_
          refine g_S (As := [.ref (b.1 6 (wh S qj))]) (st := []) hC 1 dX9_find_49 gX9_find_X9_asBytes rfl (by decide +kernel) ⟨Nat.le_of_ble_eq_true rfl, Nat.le_of_ble_eq_true rfl⟩ rfl (Nat.le_of_ble_eq_true rfl) ⟨Nat.le_of_ble_eq_true rfl, Nat.le_of_ble_eq_true rfl⟩ (c2 := 0) (s2 := 0) rfl rfl (x_asBytes (some (b.1 6 (wh S qj))) 5 (Or.inr ⟨_, 1, _, rfl, (hx0.K hw_q rfl hb_q), Or.inr (Or.inr (Or.inr (Or.inr ⟨rfl, rfl⟩)))⟩)) ?_
          refine g_astore (lv' := [(5, .null), (4, .ref (b.1 6 (wh S pj))), (3, .int (nI 2)), (0, .ref M), (1, .int (nI pj)), (2, .int (nI qj))]) hC dX9_find_52 (by decide) rfl (Or.inl rfl) ?_
          refine g_iload_n hC dX9_find_54 rfl 2 rfl ?_
          refine g_ifN_ne (a := 2) (tgt := 68) hC dX9_find_55 (by decide) (by omega) (fun h55 => ?_) (fun h55 => ?_)
          · refine g_aload_n hC dX9_find_68 rfl 3 rfl (Or.inr ⟨_, rfl⟩) ?_
            refine g_iload_n hC dX9_find_69 rfl 2 rfl ?_
            refine g_Vx (As := [.int (nI 2)]) (st := []) hC 1 dX9_find_70 rfl (hx0.M hM).1 (hx0.M hM).2 gX9_find_X9_failed rfl (by decide +kernel) ⟨Nat.le_of_ble_eq_true rfl, Nat.le_of_ble_eq_true rfl⟩ rfl (Nat.le_of_ble_eq_true rfl) ⟨(Nat.le_of_ble_eq_true rfl), (Nat.le_of_ble_eq_true rfl)⟩ (c2 := 0) (s2 := 0) rfl rfl (x_failed hx0 M hM 2) (fun v1 L1 f1 hp1 => ?_)
            obtain ⟨rfl, hx1⟩ := hp1
            show gW X vwCl 6 L1 f1 0 0 73 [(5, .null), (4, .ref (b.1 6 (wh S pj))), (3, .int (nI 2)), (0, .ref M), (1, .int (nI pj)), (2, .int (nI qj))] [.int (fA 2)]
            have hc_p : castF S pj 4 = 0 := by unfold castF isO; rw [hk_p] <;> decide
            have hc_q : castF S qj 1 = 2 := by unfold castF isO; rw [hk_q] <;> decide
            have hbf : bthF S pj qj 1 = 2 := by unfold bthF; rw [hc_p, hc_q] <;> decide
            have hE : s_find S (nI pj) (nI qj) = (fA 2, (aSc (thS S) 1 2)) := by
              unfold s_find
              rw [if_pos h4, if_pos h11, hpl_p, hpl_q, hbf, if_pos (show 0 < 2 by decide)] <;> rfl
            exact g_iret hC hR dX9_find_73 ⟨b, congrArg (fun z => some (Value.int (Prod.fst z))) hE.symm, by rw [hE]; exact hx1, xG.rf⟩
          · exfalso; omega
      · have hw_p : wh S pj < S.1 13 := hI.wt hpj (by omega)
        have hb_p : S.2.1 14 (wh S pj) ≠ 0 := by have := ((hI.2.1 _ hpj).2.2.2.2.2 (by omega)).2; omega
        have hp0_p : plcF (thS S) b pj = some (b.1 6 (wh S pj)) := plc_k hpj hk_p (by decide)
        have htk := hI.tk hw_p
        have htm := htk.2.1
        have hts := htk.sl
        have htk0 := hI0.tk (show wh S pj < (thS S).1 13 from hw_p)
        refine g_aald hC 5 rfl (hx0.Mp rfl).1 (hx0.Mp rfl).2 (pj) rfl (show pj < 10 by omega) (by decide) dX9_find_21 ?_
        refine g_val (w := .ref (b.1 6 (wh S pj))) (congrArg va_rf hp0_p) ?_
        refine g_aload_n hC dX9_find_22 rfl 0 rfl (Or.inr ⟨_, rfl⟩) ?_
        refine g_get hC (by decide +kernel) rfl (hx0.M hM).1 (hx0.M hM).2 0 (by decide) (by decide +kernel) (Or.inl rfl) rfl dX9_find_23 ?_
        refine g_iload_n hC dX9_find_26 rfl 2 rfl ?_
        have h5_q := hI.k5 hqj
        rcases (show kd S qj = 0 ∨ kd S qj = 1 ∨ kd S qj = 2 ∨ kd S qj = 3 ∨ kd S qj = 4 ∨ kd S qj = 5 by omega) with hk_q | hk_q | hk_q | hk_q | hk_q | hk_q
        · have hp0_q : plcF (thS S) b qj = none := plc_0 hqj hk_q
          refine g_aald hC 5 rfl (hx0.Mp rfl).1 (hx0.Mp rfl).2 (qj) rfl (show qj < 10 by omega) (by decide) dX9_find_27 ?_
          refine g_val (w := .null) (congrArg va_rf hp0_q) ?_
          refine g_S (As := [.ref (b.1 6 (wh S pj)), .null]) (st := []) hC 2 dX9_find_28 gX9_find_X9_lookFault rfl (by decide +kernel) ⟨Nat.le_of_ble_eq_true rfl, Nat.le_of_ble_eq_true rfl⟩ rfl (Nat.le_of_ble_eq_true rfl) ⟨Nat.le_of_ble_eq_true rfl, Nat.le_of_ble_eq_true rfl⟩ (c2 := 0) (s2 := 0) rfl rfl (x_lookFault (some (b.1 6 (wh S pj))) none 5 0 (Or.inr ⟨_, 1, _, rfl, (hx0.K hw_p rfl hb_p), Or.inr (Or.inr (Or.inr (Or.inr ⟨rfl, rfl⟩)))⟩) (Or.inl ⟨rfl, rfl⟩)) ?_
          refine g_istore_n (lv' := [(3, .int (nI 1)), (0, .ref M), (1, .int (nI pj)), (2, .int (nI qj))]) hC dX9_find_31 rfl (by decide) rfl ?_
          refine g_aload_n hC dX9_find_32 rfl 1 rfl (Or.inr ⟨_, rfl⟩) ?_
          refine g_get hC (by decide +kernel) rfl (hx0.M hM).1 (hx0.M hM).2 0 (by decide) (by decide +kernel) (Or.inl rfl) rfl dX9_find_33 ?_
          refine g_iload_n hC dX9_find_36 rfl 2 rfl ?_
          refine g_aald hC 5 rfl (hx0.Mp rfl).1 (hx0.Mp rfl).2 (pj) rfl (show pj < 10 by omega) (by decide) dX9_find_37 ?_
          refine g_val (w := .ref (b.1 6 (wh S pj))) (congrArg va_rf hp0_p) ?_
          refine g_S (As := [.ref (b.1 6 (wh S pj))]) (st := []) hC 1 dX9_find_38 gX9_find_X9_asTable rfl (by decide +kernel) ⟨Nat.le_of_ble_eq_true rfl, Nat.le_of_ble_eq_true rfl⟩ rfl (Nat.le_of_ble_eq_true rfl) ⟨Nat.le_of_ble_eq_true rfl, Nat.le_of_ble_eq_true rfl⟩ (c2 := 0) (s2 := 0) rfl rfl (x_asTable (some (b.1 6 (wh S pj))) 5 (Or.inr ⟨_, 1, _, rfl, (hx0.K hw_p rfl hb_p), Or.inr (Or.inr (Or.inr (Or.inr ⟨rfl, rfl⟩)))⟩)) ?_
          refine g_astore (lv' := [(4, .ref (b.1 6 (wh S pj))), (3, .int (nI 1)), (0, .ref M), (1, .int (nI pj)), (2, .int (nI qj))]) hC dX9_find_41 (by decide) rfl (Or.inr ⟨_, rfl⟩) ?_
          refine g_aload_n hC dX9_find_43 rfl 2 rfl (Or.inr ⟨_, rfl⟩) ?_
          refine g_get hC (by decide +kernel) rfl (hx0.M hM).1 (hx0.M hM).2 0 (by decide) (by decide +kernel) (Or.inl rfl) rfl dX9_find_44 ?_
          refine g_iload_n hC dX9_find_47 rfl 4 rfl ?_
          refine g_aald hC 5 rfl (hx0.Mp rfl).1 (hx0.Mp rfl).2 (qj) rfl (show qj < 10 by omega) (by decide) dX9_find_48 ?_
          refine g_val (w := .null) (congrArg va_rf hp0_q) ?_
          refine g_S (As := [.null]) (st := []) hC 1 dX9_find_49 gX9_find_X9_asBytes rfl (by decide +kernel) ⟨Nat.le_of_ble_eq_true rfl, Nat.le_of_ble_eq_true rfl⟩ rfl (Nat.le_of_ble_eq_true rfl) ⟨Nat.le_of_ble_eq_true rfl, Nat.le_of_ble_eq_true rfl⟩ (c2 := 0) (s2 := 0) rfl rfl (x_asBytes none 0 (Or.inl ⟨rfl, rfl⟩)) ?_
          refine g_astore (lv' := [(5, .null), (4, .ref (b.1 6 (wh S pj))), (3, .int (nI 1)), (0, .ref M), (1, .int (nI pj)), (2, .int (nI qj))]) hC dX9_find_52 (by decide) rfl (Or.inl rfl) ?_
          refine g_iload_n hC dX9_find_54 rfl 2 rfl ?_
          refine g_ifN_ne (a := 1) (tgt := 68) hC dX9_find_55 (by decide) (by omega) (fun h55 => ?_) (fun h55 => ?_)
          · refine g_aload_n hC dX9_find_68 rfl 3 rfl (Or.inr ⟨_, rfl⟩) ?_
            refine g_iload_n hC dX9_find_69 rfl 2 rfl ?_
            refine g_Vx (As := [.int (nI 1)]) (st := []) hC 1 dX9_find_70 rfl (hx0.M hM).1 (hx0.M hM).2 gX9_find_X9_failed rfl (by decide +kernel) ⟨Nat.le_of_ble_eq_true rfl, Nat.le_of_ble_eq_true rfl⟩ rfl (Nat.le_of_ble_eq_true rfl) ⟨(Nat.le_of_ble_eq_true rfl), (Nat.le_of_ble_eq_true rfl)⟩ (c2 := 0) (s2 := 0) rfl rfl (x_failed hx0 M hM 1) (fun v1 L1 f1 hp1 => ?_)
            obtain ⟨rfl, hx1⟩ := hp1
            show gW X vwCl 6 L1 f1 0 0 73 [(5, .null), (4, .ref (b.1 6 (wh S pj))), (3, .int (nI 1)), (0, .ref M), (1, .int (nI pj)), (2, .int (nI qj))] [.int (fA 1)]
            have hc_p : castF S pj 4 = 0 := by unfold castF isO; rw [hk_p] <;> decide
            have hc_q : castF S qj 1 = 1 := by unfold castF isO; rw [hk_q] <;> decide
            have hbf : bthF S pj qj 1 = 1 := by unfold bthF; rw [hc_p, hc_q] <;> decide
            have hE : s_find S (nI pj) (nI qj) = (fA 1, (aSc (thS S) 1 1)) := by
              unfold s_find
              rw [if_pos h4, if_pos h11, hpl_p, hpl_q, hbf, if_pos (show 0 < 1 by decide)] <;> rfl
            exact g_iret hC hR dX9_find_73 ⟨b, congrArg (fun z => some (Value.int (Prod.fst z))) hE.symm, by rw [hE]; exact hx1, xG.rf⟩
          · exfalso; omega
        · have hw_q : wh S qj < S.1 4 := hI.wl hqj hk_q
          have hp0_q : plcF (thS S) b qj = some (b.1 0 (wh S qj)) := plc_k hqj hk_q (by decide)
          refine g_aald hC 5 rfl (hx0.Mp rfl).1 (hx0.Mp rfl).2 (qj) rfl (show qj < 10 by omega) (by decide) dX9_find_27 ?_
          refine g_val (w := .ref (b.1 0 (wh S qj))) (congrArg va_rf hp0_q) ?_
          refine g_S (As := [.ref (b.1 6 (wh S pj)), .ref (b.1 0 (wh S qj))]) (st := []) hC 2 dX9_find_28 gX9_find_X9_lookFault rfl (by decide +kernel) ⟨Nat.le_of_ble_eq_true rfl, Nat.le_of_ble_eq_true rfl⟩ rfl (Nat.le_of_ble_eq_true rfl) ⟨Nat.le_of_ble_eq_true rfl, Nat.le_of_ble_eq_true rfl⟩ (c2 := 0) (s2 := 0) rfl rfl (x_lookFault (some (b.1 6 (wh S pj))) (some (b.1 0 (wh S qj))) 5 1 (Or.inr ⟨_, 1, _, rfl, (hx0.K hw_p rfl hb_p), Or.inr (Or.inr (Or.inr (Or.inr ⟨rfl, rfl⟩)))⟩) (Or.inr ⟨_, 0, _, rfl, (hx0.B hw_q rfl), Or.inl ⟨rfl, rfl⟩⟩)) ?_
          refine g_istore_n (lv' := [(3, .int (nI 0)), (0, .ref M), (1, .int (nI pj)), (2, .int (nI qj))]) hC dX9_find_31 rfl (by decide) rfl ?_
          refine g_aload_n hC dX9_find_32 rfl 1 rfl (Or.inr ⟨_, rfl⟩) ?_
          refine g_get hC (by decide +kernel) rfl (hx0.M hM).1 (hx0.M hM).2 0 (by decide) (by decide +kernel) (Or.inl rfl) rfl dX9_find_33 ?_
          refine g_iload_n hC dX9_find_36 rfl 2 rfl ?_
          refine g_aald hC 5 rfl (hx0.Mp rfl).1 (hx0.Mp rfl).2 (pj) rfl (show pj < 10 by omega) (by decide) dX9_find_37 ?_
          refine g_val (w := .ref (b.1 6 (wh S pj))) (congrArg va_rf hp0_p) ?_
          refine g_S (As := [.ref (b.1 6 (wh S pj))]) (st := []) hC 1 dX9_find_38 gX9_find_X9_asTable rfl (by decide +kernel) ⟨Nat.le_of_ble_eq_true rfl, Nat.le_of_ble_eq_true rfl⟩ rfl (Nat.le_of_ble_eq_true rfl) ⟨Nat.le_of_ble_eq_true rfl, Nat.le_of_ble_eq_true rfl⟩ (c2 := 0) (s2 := 0) rfl rfl (x_asTable (some (b.1 6 (wh S pj))) 5 (Or.inr ⟨_, 1, _, rfl, (hx0.K hw_p rfl hb_p), Or.inr (Or.inr (Or.inr (Or.inr ⟨rfl, rfl⟩)))⟩)) ?_
          refine g_astore (lv' := [(4, .ref (b.1 6 (wh S pj))), (3, .int (nI 0)), (0, .ref M), (1, .int (nI pj)), (2, .int (nI qj))]) hC dX9_find_41 (by decide) rfl (Or.inr ⟨_, rfl⟩) ?_
          refine g_aload_n hC dX9_find_43 rfl 2 rfl (Or.inr ⟨_, rfl⟩) ?_
          refine g_get hC (by decide +kernel) rfl (hx0.M hM).1 (hx0.M hM).2 0 (by decide) (by decide +kernel) (Or.inl rfl) rfl dX9_find_44 ?_
          refine g_iload_n hC dX9_find_47 rfl 4 rfl ?_
          refine g_aald hC 5 rfl (hx0.Mp rfl).1 (hx0.Mp rfl).2 (qj) rfl (show qj < 10 by omega) (by decide) dX9_find_48 ?_
          refine g_val (w := .ref (b.1 0 (wh S qj))) (congrArg va_rf hp0_q) ?_
          refine g_S (As := [.ref (b.1 0 (wh S qj))]) (st := []) hC 1 dX9_find_49 gX9_find_X9_asBytes rfl (by decide +kernel) ⟨Nat.le_of_ble_eq_true rfl, Nat.le_of_ble_eq_true rfl⟩ rfl (Nat.le_of_ble_eq_true rfl) ⟨Nat.le_of_ble_eq_true rfl, Nat.le_of_ble_eq_true rfl⟩ (c2 := 0) (s2 := 0) rfl rfl (x_asBytes (some (b.1 0 (wh S qj))) 1 (Or.inr ⟨_, 0, _, rfl, (hx0.B hw_q rfl), Or.inl ⟨rfl, rfl⟩⟩)) ?_
          refine g_astore (lv' := [(5, .ref (b.1 0 (wh S qj))), (4, .ref (b.1 6 (wh S pj))), (3, .int (nI 0)), (0, .ref M), (1, .int (nI pj)), (2, .int (nI qj))]) hC dX9_find_52 (by decide) rfl (Or.inr ⟨_, rfl⟩) ?_
          refine g_iload_n hC dX9_find_54 rfl 2 rfl ?_
          refine g_ifN_ne (a := 0) (tgt := 68) hC dX9_find_55 (by decide) (by omega) (fun h55 => ?_) (fun h55 => ?_)
          · exfalso; omega
          · refine g_aload hC dX9_find_58 1 rfl (Or.inr ⟨_, rfl⟩) ?_
            refine g_ifnull (o := some (b.1 6 (wh S pj))) (tgt := 68) hC dX9_find_60 (by decide) (fun h60 => ?_) (fun a60 h60 => ?_)
            · cases h60
            · refine g_aload hC dX9_find_63 0 rfl (Or.inr ⟨_, rfl⟩) ?_
              refine g_ifnonnull (o := some (b.1 0 (wh S qj))) (tgt := 74) hC dX9_find_65 (by decide) (fun a65 h65 => ?_) (fun h65 => ?_)
              · refine g_aload_n hC dX9_find_74 rfl 3 rfl (Or.inr ⟨_, rfl⟩) ?_
                refine g_aload hC dX9_find_75 1 rfl (Or.inr ⟨_, rfl⟩) ?_
                refine g_aload hC dX9_find_77 1 rfl (Or.inr ⟨_, rfl⟩) ?_
                refine g_aload hC dX9_find_79 0 rfl (Or.inr ⟨_, rfl⟩) ?_
                refine g_Ux (As := [.ref (b.1 0 (wh S qj))]) (st := [.ref (b.1 6 (wh S pj)), .ref M]) hC 1 dX9_find_81 rfl (hx0.K hw_p rfl hb_p).1 (hx0.K hw_p rfl hb_p).2 gX9_find_X7_numberOf_u170X1 rfl rfl (by decide +kernel) ⟨Nat.le_of_ble_eq_true rfl, Nat.le_of_ble_eq_true rfl⟩ rfl (Nat.le_of_ble_eq_true rfl) ⟨(Nat.le_of_ble_eq_true rfl), (Nat.le_of_ble_eq_true rfl)⟩ (c2 := 0) (s2 := 0) rfl rfl (x_numberOf_K (S := thS S) hx0 _ _ hw_p rfl hb_p _ _ hw_q rfl (fun r hr => hI.bl hr) htk0) (fun v1 L1 f1 hp1 => ?_)
                obtain ⟨rfl, hx1⟩ := hp1
                show gW X vwCl 6 L1 f1 0 0 84 [(5, .ref (b.1 0 (wh S qj))), (4, .ref (b.1 6 (wh S pj))), (3, .int (nI 0)), (0, .ref M), (1, .int (nI pj)), (2, .int (nI qj))] [.int (slv (S.2.1 19 (256 * wh S pj + (lk (thS S) (wh S pj) (wh S qj)).1))), .ref (b.1 6 (wh S pj)), .ref M]
                have h17 : (aN (thS S) 17 (wh S pj) (lk (thS S) (wh S pj) (wh S qj)).2).2.1 17 (wh S pj) = (lk (thS S) (wh S pj) (wh S qj)).2 := by show va_up (S.2.1 17) _ _ _ = _; exact va_up_self _ _ _
                have hlb := lk_b (S := thS S) (r := wh S qj) htk0
                have hlb : (lk (thS S) (wh S pj) (wh S qj)).2 ≤ S.2.1 15 (wh S pj) := hlb
                refine g_Vx (As := [.ref (b.1 6 (wh S pj)), .int (slv (S.2.1 19 (256 * wh S pj + (lk (thS S) (wh S pj) (wh S qj)).1)))]) (st := []) hC 2 dX9_find_84 rfl (hx1.M hM).1 (hx1.M hM).2 gX9_find_X9_counted rfl (by decide +kernel) ⟨Nat.le_of_ble_eq_true rfl, Nat.le_of_ble_eq_true rfl⟩ rfl (Nat.le_of_ble_eq_true rfl) ⟨(Nat.le_of_ble_eq_true rfl), (Nat.le_of_ble_eq_true rfl)⟩ (c2 := 0) (s2 := 0) rfl rfl (x_counted_K (S := aN (thS S) 17 (wh S pj) (lk (thS S) (wh S pj) (wh S qj)).2) hx1 M hM _ _ hw_p rfl hb_p _ (by rw [h17]; omega)) (fun v2 L2 f2 hp2 => ?_)
                obtain ⟨rfl, hx2⟩ := hp2
                show gW X vwCl 6 L2 f2 0 0 87 [(5, .ref (b.1 0 (wh S qj))), (4, .ref (b.1 6 (wh S pj))), (3, .int (nI 0)), (0, .ref M), (1, .int (nI pj)), (2, .int (nI qj))] [.int (slv (S.2.1 19 (256 * wh S pj + (lk (thS S) (wh S pj) (wh S qj)).1)))]
                have hc_p : castF S pj 4 = 0 := by unfold castF isO; rw [hk_p] <;> decide
                have hc_q : castF S qj 1 = 0 := by unfold castF isO; rw [hk_q] <;> decide
                have hbf : bthF S pj qj 1 = 0 := by unfold bthF; rw [hc_p, hc_q] <;> decide
                have hsl : slv (S.2.1 19 (256 * wh S pj + (lk (thS S) (wh S pj) (wh S qj)).1)) = if 0 < S.2.1 19 (256 * wh S pj + (lk (thS S) (wh S pj) (wh S qj)).1) then nI (S.2.1 19 (256 * wh S pj + (lk (thS S) (wh S pj) (wh S qj)).1) - 1) else -3 := by
                  unfold slv
                  by_cases e : S.2.1 19 (256 * wh S pj + (lk (thS S) (wh S pj) (wh S qj)).1) = 0
                  · rw [if_pos e, if_neg (by omega)]
                  · rw [if_neg e, if_pos (by omega)]
                rw [h17] at hx2
                refine g_val (congrArg Value.int hsl) ?_
                have hE : s_find S (nI pj) (nI qj) = (if 0 < S.2.1 19 (256 * wh S pj + (lk (thS S) (wh S pj) (wh S qj)).1) then nI (S.2.1 19 (256 * wh S pj + (lk (thS S) (wh S pj) (wh S qj)).1) - 1) else -3, lkS (thS S) (wh S pj) (wh S qj)) := by
                  unfold s_find
                  rw [if_pos h4, if_pos h11, hpl_p, hpl_q, hbf, if_neg (show ¬ 0 < 0 by decide)] <;> rfl
                exact g_iret hC hR dX9_find_87 ⟨b, congrArg (fun z => some (Value.int (Prod.fst z))) hE.symm, by rw [hE]; exact hx2, xG.rf⟩
              · cases h65
        · have hw_q : wh S qj < S.1 7 := hI.ws hqj hk_q
          have hp0_q : plcF (thS S) b qj = some (b.1 2 (wh S qj)) := plc_k hqj hk_q (by decide)
          refine g_aald hC 5 rfl (hx0.Mp rfl).1 (hx0.Mp rfl).2 (qj) rfl (show qj < 10 by omega) (by decide) dX9_find_27 ?_
          refine g_val (w := .ref (b.1 2 (wh S qj))) (congrArg va_rf hp0_q) ?_
          refine g_S (As := [.ref (b.1 6 (wh S pj)), .ref (b.1 2 (wh S qj))]) (st := []) hC 2 dX9_find_28 gX9_find_X9_lookFault rfl (by decide +kernel) ⟨Nat.le_of_ble_eq_true rfl, Nat.le_of_ble_eq_true rfl⟩ rfl (Nat.le_of_ble_eq_true rfl) ⟨Nat.le_of_ble_eq_true rfl, Nat.le_of_ble_eq_true rfl⟩ (c2 := 0) (s2 := 0) rfl rfl (x_lookFault (some (b.1 6 (wh S pj))) (some (b.1 2 (wh S qj))) 5 2 (Or.inr ⟨_, 1, _, rfl, (hx0.K hw_p rfl hb_p), Or.inr (Or.inr (Or.inr (Or.inr ⟨rfl, rfl⟩)))⟩) (Or.inr ⟨_, 4, _, rfl, (hx0.G hw_q rfl), Or.inr (Or.inl ⟨rfl, rfl⟩)⟩)) ?_
          refine g_istore_n (lv' := [(3, .int (nI 2)), (0, .ref M), (1, .int (nI pj)), (2, .int (nI qj))]) hC dX9_find_31 rfl (by decide) rfl ?_
          refine g_aload_n hC dX9_find_32 rfl 1 rfl (Or.inr ⟨_, rfl⟩) ?_
          refine g_get hC (by decide +kernel) rfl (hx0.M hM).1 (hx0.M hM).2 0 (by decide) (by decide +kernel) (Or.inl rfl) rfl dX9_find_33 ?_
          refine g_iload_n hC dX9_find_36 rfl 2 rfl ?_
          refine g_aald hC 5 rfl (hx0.Mp rfl).1 (hx0.Mp rfl).2 (pj) rfl (show pj < 10 by omega) (by decide) dX9_find_37 ?_
          refine g_val (w := .ref (b.1 6 (wh S pj))) (congrArg va_rf hp0_p) ?_
          refine g_S (As := [.ref (b.1 6 (wh S pj))]) (st := []) hC 1 dX9_find_38 gX9_find_X9_asTable rfl (by decide +kernel) ⟨Nat.le_of_ble_eq_true rfl, Nat.le_of_ble_eq_true rfl⟩ rfl (Nat.le_of_ble_eq_true rfl) ⟨Nat.le_of_ble_eq_true rfl, Nat.le_of_ble_eq_true rfl⟩ (c2 := 0) (s2 := 0) rfl rfl (x_asTable (some (b.1 6 (wh S pj))) 5 (Or.inr ⟨_, 1, _, rfl, (hx0.K hw_p rfl hb_p), Or.inr (Or.inr (Or.inr (Or.inr ⟨rfl, rfl⟩)))⟩)) ?_
          refine g_astore (lv' := [(4, .ref (b.1 6 (wh S pj))), (3, .int (nI 2)), (0, .ref M), (1, .int (nI pj)), (2, .int (nI qj))]) hC dX9_find_41 (by decide) rfl (Or.inr ⟨_, rfl⟩) ?_
          refine g_aload_n hC dX9_find_43 rfl 2 rfl (Or.inr ⟨_, rfl⟩) ?_
          refine g_get hC (by decide +kernel) rfl (hx0.M hM).1 (hx0.M hM).2 0 (by decide) (by decide +kernel) (Or.inl rfl) rfl dX9_find_44 ?_
          refine g_iload_n hC dX9_find_47 rfl 4 rfl ?_
          refine g_aald hC 5 rfl (hx0.Mp rfl).1 (hx0.Mp rfl).2 (qj) rfl (show qj < 10 by omega) (by decide) dX9_find_48 ?_
          refine g_val (w := .ref (b.1 2 (wh S qj))) (congrArg va_rf hp0_q) ?_
          refine g_S (As := [.ref (b.1 2 (wh S qj))]) (st := []) hC 1 dX9_find_49 gX9_find_X9_asBytes rfl (by decide +kernel) ⟨Nat.le_of_ble_eq_true rfl, Nat.le_of_ble_eq_true rfl⟩ rfl (Nat.le_of_ble_eq_true rfl) ⟨Nat.le_of_ble_eq_true rfl, Nat.le_of_ble_eq_true rfl⟩ (c2 := 0) (s2 := 0) rfl rfl (x_asBytes (some (b.1 2 (wh S qj))) 2 (Or.inr ⟨_, 4, _, rfl, (hx0.G hw_q rfl), Or.inr (Or.inl ⟨rfl, rfl⟩)⟩)) ?_
          refine g_astore (lv' := [(5, .null), (4, .ref (b.1 6 (wh S pj))), (3, .int (nI 2)), (0, .ref M), (1, .int (nI pj)), (2, .int (nI qj))]) hC dX9_find_52 (by decide) rfl (Or.inl rfl) ?_
          refine g_iload_n hC dX9_find_54 rfl 2 rfl ?_
          refine g_ifN_ne (a := 2) (tgt := 68) hC dX9_find_55 (by decide) (by omega) (fun h55 => ?_) (fun h55 => ?_)
          · refine g_aload_n hC dX9_find_68 rfl 3 rfl (Or.inr ⟨_, rfl⟩) ?_
            refine g_iload_n hC dX9_find_69 rfl 2 rfl ?_
            refine g_Vx (As := [.int (nI 2)]) (st := []) hC 1 dX9_find_70 rfl (hx0.M hM).1 (hx0.M hM).2 gX9_find_X9_failed rfl (by decide +kernel) ⟨Nat.le_of_ble_eq_true rfl, Nat.le_of_ble_eq_true rfl⟩ rfl (Nat.le_of_ble_eq_true rfl) ⟨(Nat.le_of_ble_eq_true rfl), (Nat.le_of_ble_eq_true rfl)⟩ (c2 := 0) (s2 := 0) rfl rfl (x_failed hx0 M hM 2) (fun v1 L1 f1 hp1 => ?_)
            obtain ⟨rfl, hx1⟩ := hp1
            show gW X vwCl 6 L1 f1 0 0 73 [(5, .null), (4, .ref (b.1 6 (wh S pj))), (3, .int (nI 2)), (0, .ref M), (1, .int (nI pj)), (2, .int (nI qj))] [.int (fA 2)]
            have hc_p : castF S pj 4 = 0 := by unfold castF isO; rw [hk_p] <;> decide
            have hc_q : castF S qj 1 = 2 := by unfold castF isO; rw [hk_q] <;> decide
            have hbf : bthF S pj qj 1 = 2 := by unfold bthF; rw [hc_p, hc_q] <;> decide
            have hE : s_find S (nI pj) (nI qj) = (fA 2, (aSc (thS S) 1 2)) := by
              unfold s_find
              rw [if_pos h4, if_pos h11, hpl_p, hpl_q, hbf, if_pos (show 0 < 2 by decide)] <;> rfl
            exact g_iret hC hR dX9_find_73 ⟨b, congrArg (fun z => some (Value.int (Prod.fst z))) hE.symm, by rw [hE]; exact hx1, xG.rf⟩
          · exfalso; omega
        · have hw_q : wh S qj < S.1 10 := hI.wr hqj hk_q
          have hp0_q : plcF (thS S) b qj = some (b.1 4 (wh S qj)) := plc_k hqj hk_q (by decide)
          refine g_aald hC 5 rfl (hx0.Mp rfl).1 (hx0.Mp rfl).2 (qj) rfl (show qj < 10 by omega) (by decide) dX9_find_27 ?_
          refine g_val (w := .ref (b.1 4 (wh S qj))) (congrArg va_rf hp0_q) ?_
          refine g_S (As := [.ref (b.1 6 (wh S pj)), .ref (b.1 4 (wh S qj))]) (st := []) hC 2 dX9_find_28 gX9_find_X9_lookFault rfl (by decide +kernel) ⟨Nat.le_of_ble_eq_true rfl, Nat.le_of_ble_eq_true rfl⟩ rfl (Nat.le_of_ble_eq_true rfl) ⟨Nat.le_of_ble_eq_true rfl, Nat.le_of_ble_eq_true rfl⟩ (c2 := 0) (s2 := 0) rfl rfl (x_lookFault (some (b.1 6 (wh S pj))) (some (b.1 4 (wh S qj))) 5 3 (Or.inr ⟨_, 1, _, rfl, (hx0.K hw_p rfl hb_p), Or.inr (Or.inr (Or.inr (Or.inr ⟨rfl, rfl⟩)))⟩) (Or.inr ⟨_, 3, _, rfl, (hx0.W hw_q rfl), Or.inr (Or.inr (Or.inl ⟨rfl, rfl⟩))⟩)) ?_
          refine g_istore_n (lv' := [(3, .int (nI 2)), (0, .ref M), (1, .int (nI pj)), (2, .int (nI qj))]) hC dX9_find_31 rfl (by decide) rfl ?_
          refine g_aload_n hC dX9_find_32 rfl 1 rfl (Or.inr ⟨_, rfl⟩) ?_
          refine g_get hC (by decide +kernel) rfl (hx0.M hM).1 (hx0.M hM).2 0 (by decide) (by decide +kernel) (Or.inl rfl) rfl dX9_find_33 ?_
          refine g_iload_n hC dX9_find_36 rfl 2 rfl ?_
          refine g_aald hC 5 rfl (hx0.Mp rfl).1 (hx0.Mp rfl).2 (pj) rfl (show pj < 10 by omega) (by decide) dX9_find_37 ?_
          refine g_val (w := .ref (b.1 6 (wh S pj))) (congrArg va_rf hp0_p) ?_
          refine g_S (As := [.ref (b.1 6 (wh S pj))]) (st := []) hC 1 dX9_find_38 gX9_find_X9_asTable rfl (by decide +kernel) ⟨Nat.le_of_ble_eq_true rfl, Nat.le_of_ble_eq_true rfl⟩ rfl (Nat.le_of_ble_eq_true rfl) ⟨Nat.le_of_ble_eq_true rfl, Nat.le_of_ble_eq_true rfl⟩ (c2 := 0) (s2 := 0) rfl rfl (x_asTable (some (b.1 6 (wh S pj))) 5 (Or.inr ⟨_, 1, _, rfl, (hx0.K hw_p rfl hb_p), Or.inr (Or.inr (Or.inr (Or.inr ⟨rfl, rfl⟩)))⟩)) ?_
          refine g_astore (lv' := [(4, .ref (b.1 6 (wh S pj))), (3, .int (nI 2)), (0, .ref M), (1, .int (nI pj)), (2, .int (nI qj))]) hC dX9_find_41 (by decide) rfl (Or.inr ⟨_, rfl⟩) ?_
          refine g_aload_n hC dX9_find_43 rfl 2 rfl (Or.inr ⟨_, rfl⟩) ?_
          refine g_get hC (by decide +kernel) rfl (hx0.M hM).1 (hx0.M hM).2 0 (by decide) (by decide +kernel) (Or.inl rfl) rfl dX9_find_44 ?_
          refine g_iload_n hC dX9_find_47 rfl 4 rfl ?_
          refine g_aald hC 5 rfl (hx0.Mp rfl).1 (hx0.Mp rfl).2 (qj) rfl (show qj < 10 by omega) (by decide) dX9_find_48 ?_
          refine g_val (w := .ref (b.1 4 (wh S qj))) (congrArg va_rf hp0_q) ?_
          refine g_S (As := [.ref (b.1 4 (wh S qj))]) (st := []) hC 1 dX9_find_49 gX9_find_X9_asBytes rfl (by decide +kernel) ⟨Nat.le_of_ble_eq_true rfl, Nat.le_of_ble_eq_true rfl⟩ rfl (Nat.le_of_ble_eq_true rfl) ⟨Nat.le_of_ble_eq_true rfl, Nat.le_of_ble_eq_true rfl⟩ (c2 := 0) (s2 := 0) rfl rfl (x_asBytes (some (b.1 4 (wh S qj))) 3 (Or.inr ⟨_, 3, _, rfl, (hx0.W hw_q rfl), Or.inr (Or.inr (Or.inl ⟨rfl, rfl⟩))⟩)) ?_
          refine g_astore (lv' := [(5, .null), (4, .ref (b.1 6 (wh S pj))), (3, .int (nI 2)), (0, .ref M), (1, .int (nI pj)), (2, .int (nI qj))]) hC dX9_find_52 (by decide) rfl (Or.inl rfl) ?_
          refine g_iload_n hC dX9_find_54 rfl 2 rfl ?_
          refine g_ifN_ne (a := 2) (tgt := 68) hC dX9_find_55 (by decide) (by omega) (fun h55 => ?_) (fun h55 => ?_)
          · refine g_aload_n hC dX9_find_68 rfl 3 rfl (Or.inr ⟨_, rfl⟩) ?_
            refine g_iload_n hC dX9_find_69 rfl 2 rfl ?_
            refine g_Vx (As := [.int (nI 2)]) (st := []) hC 1 dX9_find_70 rfl (hx0.M hM).1 (hx0.M hM).2 gX9_find_X9_failed rfl (by decide +kernel) ⟨Nat.le_of_ble_eq_true rfl, Nat.le_of_ble_eq_true rfl⟩ rfl (Nat.le_of_ble_eq_true rfl) ⟨(Nat.le_of_ble_eq_true rfl), (Nat.le_of_ble_eq_true rfl)⟩ (c2 := 0) (s2 := 0) rfl rfl (x_failed hx0 M hM 2) (fun v1 L1 f1 hp1 => ?_)
            obtain ⟨rfl, hx1⟩ := hp1
            show gW X vwCl 6 L1 f1 0 0 73 [(5, .null), (4, .ref (b.1 6 (wh S pj))), (3, .int (nI 2)), (0, .ref M), (1, .int (nI pj)), (2, .int (nI qj))] [.int (fA 2)]
            have hc_p : castF S pj 4 = 0 := by unfold castF isO; rw [hk_p] <;> decide
            have hc_q : castF S qj 1 = 2 := by unfold castF isO; rw [hk_q] <;> decide
            have hbf : bthF S pj qj 1 = 2 := by unfold bthF; rw [hc_p, hc_q] <;> decide
            have hE : s_find S (nI pj) (nI qj) = (fA 2, (aSc (thS S) 1 2)) := by
              unfold s_find
              rw [if_pos h4, if_pos h11, hpl_p, hpl_q, hbf, if_pos (show 0 < 2 by decide)] <;> rfl
            exact g_iret hC hR dX9_find_73 ⟨b, congrArg (fun z => some (Value.int (Prod.fst z))) hE.symm, by rw [hE]; exact hx1, xG.rf⟩
          · exfalso; omega
        · have hw_q : wh S qj < S.1 13 := hI.wt hqj (by omega)
          have hb_q : S.2.1 14 (wh S qj) = 0 := by have := ((hI.2.1 _ hqj).2.2.2.2.2 (by omega)).2; omega
          have hp0_q : plcF (thS S) b qj = some (b.1 6 (wh S qj)) := plc_k hqj hk_q (by decide)
          refine g_aald hC 5 rfl (hx0.Mp rfl).1 (hx0.Mp rfl).2 (qj) rfl (show qj < 10 by omega) (by decide) dX9_find_27 ?_
          refine g_val (w := .ref (b.1 6 (wh S qj))) (congrArg va_rf hp0_q) ?_
          refine g_S (As := [.ref (b.1 6 (wh S pj)), .ref (b.1 6 (wh S qj))]) (st := []) hC 2 dX9_find_28 gX9_find_X9_lookFault rfl (by decide +kernel) ⟨Nat.le_of_ble_eq_true rfl, Nat.le_of_ble_eq_true rfl⟩ rfl (Nat.le_of_ble_eq_true rfl) ⟨Nat.le_of_ble_eq_true rfl, Nat.le_of_ble_eq_true rfl⟩ (c2 := 0) (s2 := 0) rfl rfl (x_lookFault (some (b.1 6 (wh S pj))) (some (b.1 6 (wh S qj))) 5 4 (Or.inr ⟨_, 1, _, rfl, (hx0.K hw_p rfl hb_p), Or.inr (Or.inr (Or.inr (Or.inr ⟨rfl, rfl⟩)))⟩) (Or.inr ⟨_, 5, _, rfl, (hx0.T hw_q rfl hb_q), Or.inr (Or.inr (Or.inr (Or.inl ⟨rfl, rfl⟩)))⟩)) ?_
          refine g_istore_n (lv' := [(3, .int (nI 2)), (0, .ref M), (1, .int (nI pj)), (2, .int (nI qj))]) hC dX9_find_31 rfl (by decide) rfl ?_
          refine g_aload_n hC dX9_find_32 rfl 1 rfl (Or.inr ⟨_, rfl⟩) ?_
          refine g_get hC (by decide +kernel) rfl (hx0.M hM).1 (hx0.M hM).2 0 (by decide) (by decide +kernel) (Or.inl rfl) rfl dX9_find_33 ?_
          refine g_iload_n hC dX9_find_36 rfl 2 rfl ?_
          refine g_aald hC 5 rfl (hx0.Mp rfl).1 (hx0.Mp rfl).2 (pj) rfl (show pj < 10 by omega) (by decide) dX9_find_37 ?_
          refine g_val (w := .ref (b.1 6 (wh S pj))) (congrArg va_rf hp0_p) ?_
          refine g_S (As := [.ref (b.1 6 (wh S pj))]) (st := []) hC 1 dX9_find_38 gX9_find_X9_asTable rfl (by decide +kernel) ⟨Nat.le_of_ble_eq_true rfl, Nat.le_of_ble_eq_true rfl⟩ rfl (Nat.le_of_ble_eq_true rfl) ⟨Nat.le_of_ble_eq_true rfl, Nat.le_of_ble_eq_true rfl⟩ (c2 := 0) (s2 := 0) rfl rfl (x_asTable (some (b.1 6 (wh S pj))) 5 (Or.inr ⟨_, 1, _, rfl, (hx0.K hw_p rfl hb_p), Or.inr (Or.inr (Or.inr (Or.inr ⟨rfl, rfl⟩)))⟩)) ?_
          refine g_astore (lv' := [(4, .ref (b.1 6 (wh S pj))), (3, .int (nI 2)), (0, .ref M), (1, .int (nI pj)), (2, .int (nI qj))]) hC dX9_find_41 (by decide) rfl (Or.inr ⟨_, rfl⟩) ?_
          refine g_aload_n hC dX9_find_43 rfl 2 rfl (Or.inr ⟨_, rfl⟩) ?_
          refine g_get hC (by decide +kernel) rfl (hx0.M hM).1 (hx0.M hM).2 0 (by decide) (by decide +kernel) (Or.inl rfl) rfl dX9_find_44 ?_
          refine g_iload_n hC dX9_find_47 rfl 4 rfl ?_
          refine g_aald hC 5 rfl (hx0.Mp rfl).1 (hx0.Mp rfl).2 (qj) rfl (show qj < 10 by omega) (by decide) dX9_find_48 ?_
          refine g_val (w := .ref (b.1 6 (wh S qj))) (congrArg va_rf hp0_q) ?_
          refine g_S (As := [.ref (b.1 6 (wh S qj))]) (st := []) hC 1 dX9_find_49 gX9_find_X9_asBytes rfl (by decide +kernel) ⟨Nat.le_of_ble_eq_true rfl, Nat.le_of_ble_eq_true rfl⟩ rfl (Nat.le_of_ble_eq_true rfl) ⟨Nat.le_of_ble_eq_true rfl, Nat.le_of_ble_eq_true rfl⟩ (c2 := 0) (s2 := 0) rfl rfl (x_asBytes (some (b.1 6 (wh S qj))) 4 (Or.inr ⟨_, 5, _, rfl, (hx0.T hw_q rfl hb_q), Or.inr (Or.inr (Or.inr (Or.inl ⟨rfl, rfl⟩)))⟩)) ?_
          refine g_astore (lv' := [(5, .null), (4, .ref (b.1 6 (wh S pj))), (3, .int (nI 2)), (0, .ref M), (1, .int (nI pj)), (2, .int (nI qj))]) hC dX9_find_52 (by decide) rfl (Or.inl rfl) ?_
          refine g_iload_n hC dX9_find_54 rfl 2 rfl ?_
          refine g_ifN_ne (a := 2) (tgt := 68) hC dX9_find_55 (by decide) (by omega) (fun h55 => ?_) (fun h55 => ?_)
          · refine g_aload_n hC dX9_find_68 rfl 3 rfl (Or.inr ⟨_, rfl⟩) ?_
            refine g_iload_n hC dX9_find_69 rfl 2 rfl ?_
            refine g_Vx (As := [.int (nI 2)]) (st := []) hC 1 dX9_find_70 rfl (hx0.M hM).1 (hx0.M hM).2 gX9_find_X9_failed rfl (by decide +kernel) ⟨Nat.le_of_ble_eq_true rfl, Nat.le_of_ble_eq_true rfl⟩ rfl (Nat.le_of_ble_eq_true rfl) ⟨(Nat.le_of_ble_eq_true rfl), (Nat.le_of_ble_eq_true rfl)⟩ (c2 := 0) (s2 := 0) rfl rfl (x_failed hx0 M hM 2) (fun v1 L1 f1 hp1 => ?_)
            obtain ⟨rfl, hx1⟩ := hp1
            show gW X vwCl 6 L1 f1 0 0 73 [(5, .null), (4, .ref (b.1 6 (wh S pj))), (3, .int (nI 2)), (0, .ref M), (1, .int (nI pj)), (2, .int (nI qj))] [.int (fA 2)]
            have hc_p : castF S pj 4 = 0 := by unfold castF isO; rw [hk_p] <;> decide
            have hc_q : castF S qj 1 = 2 := by unfold castF isO; rw [hk_q] <;> decide
            have hbf : bthF S pj qj 1 = 2 := by unfold bthF; rw [hc_p, hc_q] <;> decide
            have hE : s_find S (nI pj) (nI qj) = (fA 2, (aSc (thS S) 1 2)) := by
              unfold s_find
              rw [if_pos h4, if_pos h11, hpl_p, hpl_q, hbf, if_pos (show 0 < 2 by decide)] <;> rfl
            exact g_iret hC hR dX9_find_73 ⟨b, congrArg (fun z => some (Value.int (Prod.fst z))) hE.symm, by rw [hE]; exact hx1, xG.rf⟩
          · exfalso; omega
        · have hw_q : wh S qj < S.1 13 := hI.wt hqj (by omega)
          have hb_q : S.2.1 14 (wh S qj) ≠ 0 := by have := ((hI.2.1 _ hqj).2.2.2.2.2 (by omega)).2; omega
          have hp0_q : plcF (thS S) b qj = some (b.1 6 (wh S qj)) := plc_k hqj hk_q (by decide)
          refine g_aald hC 5 rfl (hx0.Mp rfl).1 (hx0.Mp rfl).2 (qj) rfl (show qj < 10 by omega) (by decide) dX9_find_27 ?_
          refine g_val (w := .ref (b.1 6 (wh S qj))) (congrArg va_rf hp0_q) ?_
          refine g_S (As := [.ref (b.1 6 (wh S pj)), .ref (b.1 6 (wh S qj))]) (st := []) hC 2 dX9_find_28 gX9_find_X9_lookFault rfl (by decide +kernel) ⟨Nat.le_of_ble_eq_true rfl, Nat.le_of_ble_eq_true rfl⟩ rfl (Nat.le_of_ble_eq_true rfl) ⟨Nat.le_of_ble_eq_true rfl, Nat.le_of_ble_eq_true rfl⟩ (c2 := 0) (s2 := 0) rfl rfl (x_lookFault (some (b.1 6 (wh S pj))) (some (b.1 6 (wh S qj))) 5 5 (Or.inr ⟨_, 1, _, rfl, (hx0.K hw_p rfl hb_p), Or.inr (Or.inr (Or.inr (Or.inr ⟨rfl, rfl⟩)))⟩) (Or.inr ⟨_, 1, _, rfl, (hx0.K hw_q rfl hb_q), Or.inr (Or.inr (Or.inr (Or.inr ⟨rfl, rfl⟩)))⟩)) ?_
          refine g_istore_n (lv' := [(3, .int (nI 2)), (0, .ref M), (1, .int (nI pj)), (2, .int (nI qj))]) hC dX9_find_31 rfl (by decide) rfl ?_
          refine g_aload_n hC dX9_find_32 rfl 1 rfl (Or.inr ⟨_, rfl⟩) ?_
          refine g_get hC (by decide +kernel) rfl (hx0.M hM).1 (hx0.M hM).2 0 (by decide) (by decide +kernel) (Or.inl rfl) rfl dX9_find_33 ?_
          refine g_iload_n hC dX9_find_36 rfl 2 rfl ?_
          refine g_aald hC 5 rfl (hx0.Mp rfl).1 (hx0.Mp rfl).2 (pj) rfl (show pj < 10 by omega) (by decide) dX9_find_37 ?_
          refine g_val (w := .ref (b.1 6 (wh S pj))) (congrArg va_rf hp0_p) ?_
          refine g_S (As := [.ref (b.1 6 (wh S pj))]) (st := []) hC 1 dX9_find_38 gX9_find_X9_asTable rfl (by decide +kernel) ⟨Nat.le_of_ble_eq_true rfl, Nat.le_of_ble_eq_true rfl⟩ rfl (Nat.le_of_ble_eq_true rfl) ⟨Nat.le_of_ble_eq_true rfl, Nat.le_of_ble_eq_true rfl⟩ (c2 := 0) (s2 := 0) rfl rfl (x_asTable (some (b.1 6 (wh S pj))) 5 (Or.inr ⟨_, 1, _, rfl, (hx0.K hw_p rfl hb_p), Or.inr (Or.inr (Or.inr (Or.inr ⟨rfl, rfl⟩)))⟩)) ?_
          refine g_astore (lv' := [(4, .ref (b.1 6 (wh S pj))), (3, .int (nI 2)), (0, .ref M), (1, .int (nI pj)), (2, .int (nI qj))]) hC dX9_find_41 (by decide) rfl (Or.inr ⟨_, rfl⟩) ?_
          refine g_aload_n hC dX9_find_43 rfl 2 rfl (Or.inr ⟨_, rfl⟩) ?_
          refine g_get hC (by decide +kernel) rfl (hx0.M hM).1 (hx0.M hM).2 0 (by decide) (by decide +kernel) (Or.inl rfl) rfl dX9_find_44 ?_
          refine g_iload_n hC dX9_find_47 rfl 4 rfl ?_
          refine g_aald hC 5 rfl (hx0.Mp rfl).1 (hx0.Mp rfl).2 (qj) rfl (show qj < 10 by omega) (by decide) dX9_find_48 ?_
          refine g_val (w := .ref (b.1 6 (wh S qj))) (congrArg va_rf hp0_q) ?_
          refine g_S (As := [.ref (b.1 6 (wh S qj))]) (st := []) hC 1 dX9_find_49 gX9_find_X9_asBytes rfl (by decide +kernel) ⟨Nat.le_of_ble_eq_true rfl, Nat.le_of_ble_eq_true rfl⟩ rfl (Nat.le_of_ble_eq_true rfl) ⟨Nat.le_of_ble_eq_true rfl, Nat.le_of_ble_eq_true rfl⟩ (c2 := 0) (s2 := 0) rfl rfl (x_asBytes (some (b.1 6 (wh S qj))) 5 (Or.inr ⟨_, 1, _, rfl, (hx0.K hw_q rfl hb_q), Or.inr (Or.inr (Or.inr (Or.inr ⟨rfl, rfl⟩)))⟩)) ?_
          refine g_astore (lv' := [(5, .null), (4, .ref (b.1 6 (wh S pj))), (3, .int (nI 2)), (0, .ref M), (1, .int (nI pj)), (2, .int (nI qj))]) hC dX9_find_52 (by decide) rfl (Or.inl rfl) ?_
          refine g_iload_n hC dX9_find_54 rfl 2 rfl ?_
          refine g_ifN_ne (a := 2) (tgt := 68) hC dX9_find_55 (by decide) (by omega) (fun h55 => ?_) (fun h55 => ?_)
          · refine g_aload_n hC dX9_find_68 rfl 3 rfl (Or.inr ⟨_, rfl⟩) ?_
            refine g_iload_n hC dX9_find_69 rfl 2 rfl ?_
            refine g_Vx (As := [.int (nI 2)]) (st := []) hC 1 dX9_find_70 rfl (hx0.M hM).1 (hx0.M hM).2 gX9_find_X9_failed rfl (by decide +kernel) ⟨Nat.le_of_ble_eq_true rfl, Nat.le_of_ble_eq_true rfl⟩ rfl (Nat.le_of_ble_eq_true rfl) ⟨(Nat.le_of_ble_eq_true rfl), (Nat.le_of_ble_eq_true rfl)⟩ (c2 := 0) (s2 := 0) rfl rfl (x_failed hx0 M hM 2) (fun v1 L1 f1 hp1 => ?_)
            obtain ⟨rfl, hx1⟩ := hp1
            show gW X vwCl 6 L1 f1 0 0 73 [(5, .null), (4, .ref (b.1 6 (wh S pj))), (3, .int (nI 2)), (0, .ref M), (1, .int (nI pj)), (2, .int (nI qj))] [.int (fA 2)]
            have hc_p : castF S pj 4 = 0 := by unfold castF isO; rw [hk_p] <;> decide
            have hc_q : castF S qj 1 = 2 := by unfold castF isO; rw [hk_q] <;> decide
            have hbf : bthF S pj qj 1 = 2 := by unfold bthF; rw [hc_p, hc_q] <;> decide
            have hE : s_find S (nI pj) (nI qj) = (fA 2, (aSc (thS S) 1 2)) := by
              unfold s_find
              rw [if_pos h4, if_pos h11, hpl_p, hpl_q, hbf, if_pos (show 0 < 2 by decide)] <;> rfl
            exact g_iret hC hR dX9_find_73 ⟨b, congrArg (fun z => some (Value.int (Prod.fst z))) hE.symm, by rw [hE]; exact hx1, xG.rf⟩
          · exfalso; omega
    · refine g_iconst hC dX9_find_14 (v := (-1)) (by decide) ?_
      have hE : s_find S (nI pj) q = ((-1), (thS S)) := by
        unfold s_find
        rw [if_pos h4, if_neg h11] <;> rfl
      exact g_iret hC hR dX9_find_15 ⟨b, congrArg (fun z => some (Value.int (Prod.fst z))) hE.symm, by rw [hE]; exact hx0, xG.rf⟩
end Y3
