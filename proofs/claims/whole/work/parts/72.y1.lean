theorem plc_0 {S : aS} {b : xB} {j : Nat} (hj : j < 10) (hk : kd S j = 0) : plcF (thS S) b j = none := (if_pos hj).trans (if_pos hk)
theorem plc_k {S : aS} {b : xB} {j k : Nat} (hj : j < 10) (hk : kd S j = k) (h0 : k ≠ 0) : plcF (thS S) b j = some (b.1 (thk k) (wh S j)) := by
  subst hk
  exact (if_pos hj).trans (if_neg h0)
theorem same_pv {cy : Nat → ClassId} {S : aS} {b : xB} {L : List Nat} {f : Nat → va_E} {p q : Nat} (h : xR cy S b L f) (hI : aI S) (hp : p < 10) (hq : q < 10) : pvo S b p = pvo S b q ↔ (kd S p = kd S q ∧ (kd S p = 0 ∨ wh S p = wh S q)) := by
  have f1 := (xF.of hI).1 p hp
  have f2 := (xF.of hI).1 q hq
  have k1 := hI.k5 hp
  have k2 := hI.k5 hq
  have o1 := hI.2.1 p hp
  have o2 := hI.2.1 q hq
  unfold pvo
  by_cases e1 : kd S p = 0
  · rw [if_pos e1]
    by_cases e2 : kd S q = 0
    · rw [if_pos e2]; exact ⟨fun _ => ⟨by omega, Or.inl e1⟩, fun _ => rfl⟩
    · rw [if_neg e2]; exact ⟨fun z => (by cases z), fun z => (by omega)⟩
  · rw [if_neg e1]
    by_cases e2 : kd S q = 0
    · rw [if_pos e2]; exact ⟨fun z => (by cases z), fun z => (by omega)⟩
    · rw [if_neg e2]
      constructor
      · intro z
        obtain ⟨h1, h2⟩ := h.2 _ _ _ _ (f1 e1) (f2 e2) (Option.some.inj z)
        refine ⟨?_, Or.inr h2⟩
        unfold thk at h1
        have := o1.2.2.2.2.2
        have := o2.2.2.2.2.2
        rw [← h2] at this
        split at h1 <;> split at h1 <;> omega
      · rintro ⟨h1, h2⟩
        rcases h2 with h2 | h2
        · exact absurd h2 e1
        · rw [h1, h2]
section Y1
variable {l : Launch} {D : va_G} {cy adK adV : Nat → Nat} {L : List Nat} {f : Nat → va_E}
set_option maxRecDepth 20000 in
set_option maxHeartbeats 4000000 in
theorem y_fault {S : aS} {b : xB} (hx : xR cy S b L f) (hI : aI S) (M : Nat) (hM : b.1 9 0 = M) : gCt l D vwCl (gKK D cy adK adV) yX9_fault wsX9_fault { frames := 0, cells := 0, slots := 0, locals := 0 } [.ref M] L f (xP cy S b (s_fault S).2 (fun _ => some (.int (s_fault S).1))) := by
  refine gCt.of gKK_ok (by decide) rfl rfl (fun X hC hR hnm => ?_)
  have hC : gC X l _ D vwCl (cyT cy) (gKK D cy adK adV) cX9_fault 1 wsX9_fault RX9 := hC
  have hx0 := hx.th0
  have hI0 := hI.th
  show gW X vwCl 1 L f 0 0 0 [(0, .ref M)] []
  refine g_aload_n hC dX9_fault_0 rfl 0 rfl (Or.inr ⟨_, rfl⟩) ?_
  refine g_get hC (by decide +kernel) rfl (hx0.M hM).1 (hx0.M hM).2 3 (by decide) (by decide +kernel) (Or.inl rfl) rfl dX9_fault_1 ?_
  have hE : s_fault S  = (nI (S.1 1), (thS S)) := by
    unfold s_fault
    rfl
  exact g_iret hC hR dX9_fault_4 ⟨b, congrArg (fun z => some (Value.int (Prod.fst z))) hE.symm, by rw [hE]; exact hx0, xG.rf⟩
set_option maxRecDepth 20000 in
set_option maxHeartbeats 4000000 in
theorem y_kept {S : aS} {b : xB} (hx : xR cy S b L f) (hI : aI S) (M : Nat) (hM : b.1 9 0 = M) : gCt l D vwCl (gKK D cy adK adV) yX9_kept wsX9_kept { frames := 0, cells := 0, slots := 0, locals := 0 } [.ref M] L f (xP cy S b (s_kept S).2 (fun _ => some (.int (s_kept S).1))) := by
  refine gCt.of gKK_ok (by decide) rfl rfl (fun X hC hR hnm => ?_)
  have hC : gC X l _ D vwCl (cyT cy) (gKK D cy adK adV) cX9_kept 1 wsX9_kept RX9 := hC
  have hx0 := hx.th0
  have hI0 := hI.th
  show gW X vwCl 1 L f 0 0 0 [(0, .ref M)] []
  refine g_aload_n hC dX9_kept_0 rfl 0 rfl (Or.inr ⟨_, rfl⟩) ?_
  refine g_get hC (by decide +kernel) rfl (hx0.M hM).1 (hx0.M hM).2 1 (by decide) (by decide +kernel) (Or.inl rfl) rfl dX9_kept_1 ?_
  refine g_getN hC (by decide +kernel) rfl (hx0.P rfl).1 (hx0.P rfl).2 1 (by decide) (gKK_F ("KeptTerms", 192, "KeptTerms$Pool", "count", "I") (by decide)) (Or.inl rfl) rfl dX9_kept_4 ?_
  have hE : s_kept S  = (nI (S.1 21), (thS S)) := by
    unfold s_kept
    rfl
  exact g_iret hC hR dX9_kept_7 ⟨b, congrArg (fun z => some (Value.int (Prod.fst z))) hE.symm, by rw [hE]; exact hx0, xG.rf⟩
set_option maxRecDepth 20000 in
set_option maxHeartbeats 4000000 in
theorem y_length {S : aS} {b : xB} (hx : xR cy S b L f) (hI : aI S) (M : Nat) (hM : b.1 9 0 = M) (p t : Int32) : gCt l D vwCl (gKK D cy adK adV) yX9_length wsX9_length { frames := 4, cells := 0, slots := 0, locals := 83 } [.ref M, .int p, .int t] L f (xP cy S b (s_length S p t).2 (fun _ => some (.int (s_length S p t).1))) := by
  refine gCt.of gKK_ok (by decide) rfl rfl (fun X hC hR hnm => ?_)
  have hC : gC X l _ D vwCl (cyT cy) (gKK D cy adK adV) cX9_length 4 wsX9_length RX9 := hC
  have hx0 := hx.th0
  have hI0 := hI.th
  show gW X vwCl 4 L f 0 0 0 [(0, .ref M), (1, .int p), (2, .int t)] []
  refine g_iload_n hC dX9_length_0 rfl 1 rfl ?_
  refine g_S (As := [.int p]) (st := []) hC 1 dX9_length_1 gX9_length_X9_isPlace rfl (by decide +kernel) ⟨Nat.le_of_ble_eq_true rfl, Nat.le_of_ble_eq_true rfl⟩ rfl (Nat.le_of_ble_eq_true rfl) ⟨Nat.le_of_ble_eq_true rfl, Nat.le_of_ble_eq_true rfl⟩ (c2 := 0) (s2 := 0) rfl rfl (x_isPlace _) ?_
  refine g_ifB_ne (P := isP p) (tgt := 9) hC dX9_length_4 (by decide) (fun h4 => ?_) (fun h4 => ?_)
  · obtain ⟨pj, hpj, rfl⟩ := isP_j h4
    have hpl_p : pl (nI pj) = pj := nI_clamp (by omega)
    refine g_iload_n hC dX9_length_9 rfl 2 rfl ?_
    refine g_iconst hC dX9_length_10 (v := nI 1) (by decide) ?_
    refine g_icmp_lt (x := t) (y := nI 1) (tgt := 19) hC dX9_length_11 (by decide) (fun h11 => ?_) (fun h11 => ?_)
    · refine g_bipush hC dX9_length_19 (v := (-2)) (by decide) ?_
      have hE : s_length S (nI pj) t = ((-2), (thS S)) := by
        unfold s_length
        rw [if_pos h4, if_neg (show ¬ (nI 1 ≤ t ∧ t ≤ nI 3) by
          have e1 : (nI 1).toInt = 1 := rfl
          have e2 : (nI 3).toInt = 3 := rfl
          intro z
          simp only [Int32.lt_iff_toInt_lt, Int32.le_iff_toInt_le, Int32.toInt_zero] at h11 z
          omega)] <;> rfl
      exact g_iret hC hR dX9_length_21 ⟨b, congrArg (fun z => some (Value.int (Prod.fst z))) hE.symm, by rw [hE]; exact hx0, xG.rf⟩
    · refine g_iload_n hC dX9_length_14 rfl 2 rfl ?_
      refine g_iconst hC dX9_length_15 (v := nI 3) (by decide) ?_
      refine g_icmp_le (x := t) (y := nI 3) (tgt := 22) hC dX9_length_16 (by decide) (fun h16 => ?_) (fun h16 => ?_)
      · have hR_t : nI 1 ≤ t ∧ t ≤ nI 3 := by
          have e1 : (nI 1).toInt = 1 := rfl
          have e2 : (nI 3).toInt = 3 := rfl
          rw [Int32.le_iff_toInt_le, Int32.le_iff_toInt_le]
          simp only [Int32.lt_iff_toInt_lt, Int32.le_iff_toInt_le, Int32.toInt_zero] at h11 h16
          omega
        obtain ⟨tj, ht1, ht2, rfl⟩ := ty_j (lo := 1) (hi := 3) (by decide) hR_t (by decide)
        rcases (show tj = 1 ∨ tj = 2 ∨ tj = 3 by omega) with rfl | rfl | rfl
        · have hpl_t : pl (nI 1) = 1 := by decide
          refine g_aload_n hC dX9_length_22 rfl 0 rfl (Or.inr ⟨_, rfl⟩) ?_
          refine g_get hC (by decide +kernel) rfl (hx0.M hM).1 (hx0.M hM).2 0 (by decide) (by decide +kernel) (Or.inl rfl) rfl dX9_length_23 ?_
          refine g_iload_n hC dX9_length_26 rfl 1 rfl ?_
          have h5_p := hI.k5 hpj
          rcases (show kd S pj = 0 ∨ kd S pj = 1 ∨ kd S pj = 2 ∨ kd S pj = 3 ∨ kd S pj = 4 ∨ kd S pj = 5 by omega) with hk_p | hk_p | hk_p | hk_p | hk_p | hk_p
          · have hp0_p : plcF (thS S) b pj = none := plc_0 hpj hk_p
            refine g_aald hC 5 rfl (hx0.Mp rfl).1 (hx0.Mp rfl).2 (pj) rfl (show pj < 10 by omega) (by decide) dX9_length_27 ?_
            refine g_val (w := .null) (congrArg va_rf hp0_p) ?_
            refine g_iload_n hC dX9_length_28 rfl 2 rfl ?_
            refine g_S (As := [.null, .int (nI 1)]) (st := []) hC 2 dX9_length_29 gX9_length_X9_mayBeCast rfl (by decide +kernel) ⟨Nat.le_of_ble_eq_true rfl, Nat.le_of_ble_eq_true rfl⟩ rfl (Nat.le_of_ble_eq_true rfl) ⟨Nat.le_of_ble_eq_true rfl, Nat.le_of_ble_eq_true rfl⟩ (c2 := 0) (s2 := 0) rfl rfl (x_mayBeCast none 0 (Or.inl ⟨rfl, rfl⟩) 1 (by decide)) ?_
            refine g_ifN_ne (a := 1) (tgt := 41) hC dX9_length_32 (by decide) (by omega) (fun h32 => ?_) (fun h32 => ?_)
            · refine g_aload_n hC dX9_length_41 rfl 0 rfl (Or.inr ⟨_, rfl⟩) ?_
              refine g_get hC (by decide +kernel) rfl (hx0.M hM).1 (hx0.M hM).2 0 (by decide) (by decide +kernel) (Or.inl rfl) rfl dX9_length_42 ?_
              refine g_iload_n hC dX9_length_45 rfl 1 rfl ?_
              refine g_aald hC 5 rfl (hx0.Mp rfl).1 (hx0.Mp rfl).2 (pj) rfl (show pj < 10 by omega) (by decide) dX9_length_46 ?_
              refine g_val (w := .null) (congrArg va_rf hp0_p) ?_
              refine g_S (As := [.null]) (st := []) hC 1 dX9_length_47 gX9_length_X9_asRow rfl (by decide +kernel) ⟨Nat.le_of_ble_eq_true rfl, Nat.le_of_ble_eq_true rfl⟩ rfl (Nat.le_of_ble_eq_true rfl) ⟨Nat.le_of_ble_eq_true rfl, Nat.le_of_ble_eq_true rfl⟩ (c2 := 0) (s2 := 0) rfl rfl (x_asRow none 0 (Or.inl ⟨rfl, rfl⟩)) ?_
              refine g_astore_n (lv' := [(3, .null), (0, .ref M), (1, .int (nI pj)), (2, .int (nI 1))]) hC dX9_length_50 rfl (by decide) rfl (Or.inl rfl) ?_
              refine g_aload_n hC dX9_length_51 rfl 0 rfl (Or.inl rfl) ?_
              refine g_ifnonnull (o := none) (tgt := 63) hC dX9_length_52 (by decide) (fun a52 h52 => ?_) (fun h52 => ?_)
              · cases h52
              · refine g_aload_n hC dX9_length_55 rfl 1 rfl (Or.inr ⟨_, rfl⟩) ?_
                refine g_iconst hC dX9_length_56 (v := nI 1) (by decide) ?_
                refine g_Vx (As := [.int (nI 1)]) (st := []) hC 1 dX9_length_57 rfl (hx0.M hM).1 (hx0.M hM).2 gX9_length_X9_failed rfl (by decide +kernel) ⟨Nat.le_of_ble_eq_true rfl, Nat.le_of_ble_eq_true rfl⟩ rfl (Nat.le_of_ble_eq_true rfl) ⟨(Nat.le_of_ble_eq_true rfl), (Nat.le_of_ble_eq_true rfl)⟩ (c2 := 0) (s2 := 0) rfl rfl (x_failed hx0 M hM 1) (fun v1 L1 f1 hp1 => ?_)
                obtain ⟨rfl, hx1⟩ := hp1
                show gW X vwCl 4 L1 f1 0 0 60 [(3, .null), (0, .ref M), (1, .int (nI pj)), (2, .int (nI 1))] [.int (fA 1)]
                refine g_goto (tgt := 67) hC dX9_length_60 (by decide) ?_
                have hc_p : castF S pj 1 = 1 := by unfold castF isO; rw [hk_p] <;> decide
                have hE : s_length S (nI pj) (nI 1) = (fA 1, (aSc (thS S) 1 1)) := by
                  unfold s_length
                  rw [if_pos h4, if_pos hR_t, hpl_p, hpl_t, hc_p, if_pos (show 0 < 1 by decide)] <;> rfl
                exact g_iret hC hR dX9_length_67 ⟨b, congrArg (fun z => some (Value.int (Prod.fst z))) hE.symm, by rw [hE]; exact hx1, xG.rf⟩
            · exfalso; omega
          · have hw_p : wh S pj < S.1 4 := hI.wl hpj hk_p
            have hp0_p : plcF (thS S) b pj = some (b.1 0 (wh S pj)) := plc_k hpj hk_p (by decide)
            refine g_aald hC 5 rfl (hx0.Mp rfl).1 (hx0.Mp rfl).2 (pj) rfl (show pj < 10 by omega) (by decide) dX9_length_27 ?_
            refine g_val (w := .ref (b.1 0 (wh S pj))) (congrArg va_rf hp0_p) ?_
            refine g_iload_n hC dX9_length_28 rfl 2 rfl ?_
            refine g_S (As := [.ref (b.1 0 (wh S pj)), .int (nI 1)]) (st := []) hC 2 dX9_length_29 gX9_length_X9_mayBeCast rfl (by decide +kernel) ⟨Nat.le_of_ble_eq_true rfl, Nat.le_of_ble_eq_true rfl⟩ rfl (Nat.le_of_ble_eq_true rfl) ⟨Nat.le_of_ble_eq_true rfl, Nat.le_of_ble_eq_true rfl⟩ (c2 := 0) (s2 := 0) rfl rfl (x_mayBeCast (some (b.1 0 (wh S pj))) 1 (Or.inr ⟨_, 0, _, rfl, (hx0.B hw_p rfl), Or.inl ⟨rfl, rfl⟩⟩) 1 (by decide)) ?_
            refine g_ifN_ne (a := 1) (tgt := 41) hC dX9_length_32 (by decide) (by omega) (fun h32 => ?_) (fun h32 => ?_)
            · refine g_aload_n hC dX9_length_41 rfl 0 rfl (Or.inr ⟨_, rfl⟩) ?_
              refine g_get hC (by decide +kernel) rfl (hx0.M hM).1 (hx0.M hM).2 0 (by decide) (by decide +kernel) (Or.inl rfl) rfl dX9_length_42 ?_
              refine g_iload_n hC dX9_length_45 rfl 1 rfl ?_
              refine g_aald hC 5 rfl (hx0.Mp rfl).1 (hx0.Mp rfl).2 (pj) rfl (show pj < 10 by omega) (by decide) dX9_length_46 ?_
              refine g_val (w := .ref (b.1 0 (wh S pj))) (congrArg va_rf hp0_p) ?_
              refine g_S (As := [.ref (b.1 0 (wh S pj))]) (st := []) hC 1 dX9_length_47 gX9_length_X9_asRow rfl (by decide +kernel) ⟨Nat.le_of_ble_eq_true rfl, Nat.le_of_ble_eq_true rfl⟩ rfl (Nat.le_of_ble_eq_true rfl) ⟨Nat.le_of_ble_eq_true rfl, Nat.le_of_ble_eq_true rfl⟩ (c2 := 0) (s2 := 0) rfl rfl (x_asRow (some (b.1 0 (wh S pj))) 1 (Or.inr ⟨_, 0, _, rfl, (hx0.B hw_p rfl), Or.inl ⟨rfl, rfl⟩⟩)) ?_
              refine g_astore_n (lv' := [(3, .ref (b.1 0 (wh S pj))), (0, .ref M), (1, .int (nI pj)), (2, .int (nI 1))]) hC dX9_length_50 rfl (by decide) rfl (Or.inr ⟨_, rfl⟩) ?_
              refine g_aload_n hC dX9_length_51 rfl 0 rfl (Or.inr ⟨_, rfl⟩) ?_
              refine g_ifnonnull (o := some (b.1 0 (wh S pj))) (tgt := 63) hC dX9_length_52 (by decide) (fun a52 h52 => ?_) (fun h52 => ?_)
              · refine g_aload_n hC dX9_length_63 rfl 0 rfl (Or.inr ⟨_, rfl⟩) ?_
                refine g_A (As := []) (st := []) hC 0 dX9_length_64 rfl (hx0.B hw_p rfl).1 (hx0.B hw_p rfl).2 gX9_length_X0_cellCount_u72X0 rfl (gKK_D ⟨"KeptTerms$Row", "cellCount", "()I"⟩ (by decide)) (by decide +kernel) ⟨Nat.le_of_ble_eq_true rfl, Nat.le_of_ble_eq_true rfl⟩ rfl (Nat.le_of_ble_eq_true rfl) ⟨Nat.le_of_ble_eq_true rfl, Nat.le_of_ble_eq_true rfl⟩ (c2 := 0) (s2 := 0) rfl rfl (x_0_cellCount _ _ _ _ (hx0.isB hw_p rfl (hI.bl hw_p))) ?_
                have hc_p : castF S pj 1 = 0 := by unfold castF isO; rw [hk_p] <;> decide
                have hlg_p : longS S pj = S.2.1 5 (wh S pj) := by unfold longS; rw [hk_p] <;> rfl
                have hE : s_length S (nI pj) (nI 1) = (nI (S.2.1 5 (wh S pj)), (thS S)) := by
                  unfold s_length
                  rw [if_pos h4, if_pos hR_t, hpl_p, hpl_t, hc_p, if_neg (show ¬ 0 < 0 by decide), hlg_p] <;> rfl
                exact g_iret hC hR dX9_length_67 ⟨b, congrArg (fun z => some (Value.int (Prod.fst z))) hE.symm, by rw [hE]; exact hx0, xG.rf⟩
              · cases h52
            · exfalso; omega
          · have hw_p : wh S pj < S.1 7 := hI.ws hpj hk_p
            have hp0_p : plcF (thS S) b pj = some (b.1 2 (wh S pj)) := plc_k hpj hk_p (by decide)
            refine g_aald hC 5 rfl (hx0.Mp rfl).1 (hx0.Mp rfl).2 (pj) rfl (show pj < 10 by omega) (by decide) dX9_length_27 ?_
            refine g_val (w := .ref (b.1 2 (wh S pj))) (congrArg va_rf hp0_p) ?_
            refine g_iload_n hC dX9_length_28 rfl 2 rfl ?_
            refine g_S (As := [.ref (b.1 2 (wh S pj)), .int (nI 1)]) (st := []) hC 2 dX9_length_29 gX9_length_X9_mayBeCast rfl (by decide +kernel) ⟨Nat.le_of_ble_eq_true rfl, Nat.le_of_ble_eq_true rfl⟩ rfl (Nat.le_of_ble_eq_true rfl) ⟨Nat.le_of_ble_eq_true rfl, Nat.le_of_ble_eq_true rfl⟩ (c2 := 0) (s2 := 0) rfl rfl (x_mayBeCast (some (b.1 2 (wh S pj))) 2 (Or.inr ⟨_, 4, _, rfl, (hx0.G hw_p rfl), Or.inr (Or.inl ⟨rfl, rfl⟩)⟩) 1 (by decide)) ?_
            refine g_ifN_ne (a := 0) (tgt := 41) hC dX9_length_32 (by decide) (by omega) (fun h32 => ?_) (fun h32 => ?_)
            · exfalso; omega
            · refine g_aload_n hC dX9_length_35 rfl 0 rfl (Or.inr ⟨_, rfl⟩) ?_
              refine g_iconst hC dX9_length_36 (v := nI 2) (by decide) ?_
              refine g_Vx (As := [.int (nI 2)]) (st := []) hC 1 dX9_length_37 rfl (hx0.M hM).1 (hx0.M hM).2 gX9_length_X9_failed rfl (by decide +kernel) ⟨Nat.le_of_ble_eq_true rfl, Nat.le_of_ble_eq_true rfl⟩ rfl (Nat.le_of_ble_eq_true rfl) ⟨(Nat.le_of_ble_eq_true rfl), (Nat.le_of_ble_eq_true rfl)⟩ (c2 := 0) (s2 := 0) rfl rfl (x_failed hx0 M hM 2) (fun v1 L1 f1 hp1 => ?_)
              obtain ⟨rfl, hx1⟩ := hp1
              show gW X vwCl 4 L1 f1 0 0 40 [(0, .ref M), (1, .int (nI pj)), (2, .int (nI 1))] [.int (fA 2)]
              have hc_p : castF S pj 1 = 2 := by unfold castF isO; rw [hk_p] <;> decide
              have hE : s_length S (nI pj) (nI 1) = (fA 2, (aSc (thS S) 1 2)) := by
                unfold s_length
                rw [if_pos h4, if_pos hR_t, hpl_p, hpl_t, hc_p, if_pos (show 0 < 2 by decide)] <;> rfl
              exact g_iret hC hR dX9_length_40 ⟨b, congrArg (fun z => some (Value.int (Prod.fst z))) hE.symm, by rw [hE]; exact hx1, xG.rf⟩
          · have hw_p : wh S pj < S.1 10 := hI.wr hpj hk_p
            have hp0_p : plcF (thS S) b pj = some (b.1 4 (wh S pj)) := plc_k hpj hk_p (by decide)
            refine g_aald hC 5 rfl (hx0.Mp rfl).1 (hx0.Mp rfl).2 (pj) rfl (show pj < 10 by omega) (by decide) dX9_length_27 ?_
            refine g_val (w := .ref (b.1 4 (wh S pj))) (congrArg va_rf hp0_p) ?_
            refine g_iload_n hC dX9_length_28 rfl 2 rfl ?_
            refine g_S (As := [.ref (b.1 4 (wh S pj)), .int (nI 1)]) (st := []) hC 2 dX9_length_29 gX9_length_X9_mayBeCast rfl (by decide +kernel) ⟨Nat.le_of_ble_eq_true rfl, Nat.le_of_ble_eq_true rfl⟩ rfl (Nat.le_of_ble_eq_true rfl) ⟨Nat.le_of_ble_eq_true rfl, Nat.le_of_ble_eq_true rfl⟩ (c2 := 0) (s2 := 0) rfl rfl (x_mayBeCast (some (b.1 4 (wh S pj))) 3 (Or.inr ⟨_, 3, _, rfl, (hx0.W hw_p rfl), Or.inr (Or.inr (Or.inl ⟨rfl, rfl⟩))⟩) 1 (by decide)) ?_
            refine g_ifN_ne (a := 0) (tgt := 41) hC dX9_length_32 (by decide) (by omega) (fun h32 => ?_) (fun h32 => ?_)
            · exfalso; omega
            · refine g_aload_n hC dX9_length_35 rfl 0 rfl (Or.inr ⟨_, rfl⟩) ?_
              refine g_iconst hC dX9_length_36 (v := nI 2) (by decide) ?_
              refine g_Vx (As := [.int (nI 2)]) (st := []) hC 1 dX9_length_37 rfl (hx0.M hM).1 (hx0.M hM).2 gX9_length_X9_failed rfl (by decide +kernel) ⟨Nat.le_of_ble_eq_true rfl, Nat.le_of_ble_eq_true rfl⟩ rfl (Nat.le_of_ble_eq_true rfl) ⟨(Nat.le_of_ble_eq_true rfl), (Nat.le_of_ble_eq_true rfl)⟩ (c2 := 0) (s2 := 0) rfl rfl (x_failed hx0 M hM 2) (fun v1 L1 f1 hp1 => ?_)
              obtain ⟨rfl, hx1⟩ := hp1
              show gW X vwCl 4 L1 f1 0 0 40 [(0, .ref M), (1, .int (nI pj)), (2, .int (nI 1))] [.int (fA 2)]
              have hc_p : castF S pj 1 = 2 := by unfold castF isO; rw [hk_p] <;> decide
              have hE : s_length S (nI pj) (nI 1) = (fA 2, (aSc (thS S) 1 2)) := by
                unfold s_length
                rw [if_pos h4, if_pos hR_t, hpl_p, hpl_t, hc_p, if_pos (show 0 < 2 by decide)] <;> rfl
              exact g_iret hC hR dX9_length_40 ⟨b, congrArg (fun z => some (Value.int (Prod.fst z))) hE.symm, by rw [hE]; exact hx1, xG.rf⟩
          · have hw_p : wh S pj < S.1 13 := hI.wt hpj (by omega)
            have hb_p : S.2.1 14 (wh S pj) = 0 := by have := ((hI.2.1 _ hpj).2.2.2.2.2 (by omega)).2; omega
            have hp0_p : plcF (thS S) b pj = some (b.1 6 (wh S pj)) := plc_k hpj hk_p (by decide)
            refine g_aald hC 5 rfl (hx0.Mp rfl).1 (hx0.Mp rfl).2 (pj) rfl (show pj < 10 by omega) (by decide) dX9_length_27 ?_
            refine g_val (w := .ref (b.1 6 (wh S pj))) (congrArg va_rf hp0_p) ?_
            refine g_iload_n hC dX9_length_28 rfl 2 rfl ?_
            refine g_S (As := [.ref (b.1 6 (wh S pj)), .int (nI 1)]) (st := []) hC 2 dX9_length_29 gX9_length_X9_mayBeCast rfl (by decide +kernel) ⟨Nat.le_of_ble_eq_true rfl, Nat.le_of_ble_eq_true rfl⟩ rfl (Nat.le_of_ble_eq_true rfl) ⟨Nat.le_of_ble_eq_true rfl, Nat.le_of_ble_eq_true rfl⟩ (c2 := 0) (s2 := 0) rfl rfl (x_mayBeCast (some (b.1 6 (wh S pj))) 4 (Or.inr ⟨_, 5, _, rfl, (hx0.T hw_p rfl hb_p), Or.inr (Or.inr (Or.inr (Or.inl ⟨rfl, rfl⟩)))⟩) 1 (by decide)) ?_
            refine g_ifN_ne (a := 0) (tgt := 41) hC dX9_length_32 (by decide) (by omega) (fun h32 => ?_) (fun h32 => ?_)
            · exfalso; omega
            · refine g_aload_n hC dX9_length_35 rfl 0 rfl (Or.inr ⟨_, rfl⟩) ?_
              refine g_iconst hC dX9_length_36 (v := nI 2) (by decide) ?_
              refine g_Vx (As := [.int (nI 2)]) (st := []) hC 1 dX9_length_37 rfl (hx0.M hM).1 (hx0.M hM).2 gX9_length_X9_failed rfl (by decide +kernel) ⟨Nat.le_of_ble_eq_true rfl, Nat.le_of_ble_eq_true rfl⟩ rfl (Nat.le_of_ble_eq_true rfl) ⟨(Nat.le_of_ble_eq_true rfl), (Nat.le_of_ble_eq_true rfl)⟩ (c2 := 0) (s2 := 0) rfl rfl (x_failed hx0 M hM 2) (fun v1 L1 f1 hp1 => ?_)
              obtain ⟨rfl, hx1⟩ := hp1
              show gW X vwCl 4 L1 f1 0 0 40 [(0, .ref M), (1, .int (nI pj)), (2, .int (nI 1))] [.int (fA 2)]
              have hc_p : castF S pj 1 = 2 := by unfold castF isO; rw [hk_p] <;> decide
              have hE : s_length S (nI pj) (nI 1) = (fA 2, (aSc (thS S) 1 2)) := by
                unfold s_length
                rw [if_pos h4, if_pos hR_t, hpl_p, hpl_t, hc_p, if_pos (show 0 < 2 by decide)] <;> rfl
              exact g_iret hC hR dX9_length_40 ⟨b, congrArg (fun z => some (Value.int (Prod.fst z))) hE.symm, by rw [hE]; exact hx1, xG.rf⟩
          · have hw_p : wh S pj < S.1 13 := hI.wt hpj (by omega)
            have hb_p : S.2.1 14 (wh S pj) ≠ 0 := by have := ((hI.2.1 _ hpj).2.2.2.2.2 (by omega)).2; omega
            have hp0_p : plcF (thS S) b pj = some (b.1 6 (wh S pj)) := plc_k hpj hk_p (by decide)
            refine g_aald hC 5 rfl (hx0.Mp rfl).1 (hx0.Mp rfl).2 (pj) rfl (show pj < 10 by omega) (by decide) dX9_length_27 ?_
            refine g_val (w := .ref (b.1 6 (wh S pj))) (congrArg va_rf hp0_p) ?_
            refine g_iload_n hC dX9_length_28 rfl 2 rfl ?_
            refine g_S (As := [.ref (b.1 6 (wh S pj)), .int (nI 1)]) (st := []) hC 2 dX9_length_29 gX9_length_X9_mayBeCast rfl (by decide +kernel) ⟨Nat.le_of_ble_eq_true rfl, Nat.le_of_ble_eq_true rfl⟩ rfl (Nat.le_of_ble_eq_true rfl) ⟨Nat.le_of_ble_eq_true rfl, Nat.le_of_ble_eq_true rfl⟩ (c2 := 0) (s2 := 0) rfl rfl (x_mayBeCast (some (b.1 6 (wh S pj))) 5 (Or.inr ⟨_, 1, _, rfl, (hx0.K hw_p rfl hb_p), Or.inr (Or.inr (Or.inr (Or.inr ⟨rfl, rfl⟩)))⟩) 1 (by decide)) ?_
            refine g_ifN_ne (a := 0) (tgt := 41) hC dX9_length_32 (by decide) (by omega) (fun h32 => ?_) (fun h32 => ?_)
            · exfalso; omega
            · refine g_aload_n hC dX9_length_35 rfl 0 rfl (Or.inr ⟨_, rfl⟩) ?_
              refine g_iconst hC dX9_length_36 (v := nI 2) (by decide) ?_
              refine g_Vx (As := [.int (nI 2)]) (st := []) hC 1 dX9_length_37 rfl (hx0.M hM).1 (hx0.M hM).2 gX9_length_X9_failed rfl (by decide +kernel) ⟨Nat.le_of_ble_eq_true rfl, Nat.le_of_ble_eq_true rfl⟩ rfl (Nat.le_of_ble_eq_true rfl) ⟨(Nat.le_of_ble_eq_true rfl), (Nat.le_of_ble_eq_true rfl)⟩ (c2 := 0) (s2 := 0) rfl rfl (x_failed hx0 M hM 2) (fun v1 L1 f1 hp1 => ?_)
              obtain ⟨rfl, hx1⟩ := hp1
              show gW X vwCl 4 L1 f1 0 0 40 [(0, .ref M), (1, .int (nI pj)), (2, .int (nI 1))] [.int (fA 2)]
              have hc_p : castF S pj 1 = 2 := by unfold castF isO; rw [hk_p] <;> decide
              have hE : s_length S (nI pj) (nI 1) = (fA 2, (aSc (thS S) 1 2)) := by
                unfold s_length
                rw [if_pos h4, if_pos hR_t, hpl_p, hpl_t, hc_p, if_pos (show 0 < 2 by decide)] <;> rfl
              exact g_iret hC hR dX9_length_40 ⟨b, congrArg (fun z => some (Value.int (Prod.fst z))) hE.symm, by rw [hE]; exact hx1, xG.rf⟩
        · have hpl_t : pl (nI 2) = 2 := by decide
          refine g_aload_n hC dX9_length_22 rfl 0 rfl (Or.inr ⟨_, rfl⟩) ?_
          refine g_get hC (by decide +kernel) rfl (hx0.M hM).1 (hx0.M hM).2 0 (by decide) (by decide +kernel) (Or.inl rfl) rfl dX9_length_23 ?_
          refine g_iload_n hC dX9_length_26 rfl 1 rfl ?_
          have h5_p := hI.k5 hpj
          rcases (show kd S pj = 0 ∨ kd S pj = 1 ∨ kd S pj = 2 ∨ kd S pj = 3 ∨ kd S pj = 4 ∨ kd S pj = 5 by omega) with hk_p | hk_p | hk_p | hk_p | hk_p | hk_p
          · have hp0_p : plcF (thS S) b pj = none := plc_0 hpj hk_p
            refine g_aald hC 5 rfl (hx0.Mp rfl).1 (hx0.Mp rfl).2 (pj) rfl (show pj < 10 by omega) (by decide) dX9_length_27 ?_
            refine g_val (w := .null) (congrArg va_rf hp0_p) ?_
            refine g_iload_n hC dX9_length_28 rfl 2 rfl ?_
            refine g_S (As := [.null, .int (nI 2)]) (st := []) hC 2 dX9_length_29 gX9_length_X9_mayBeCast rfl (by decide +kernel) ⟨Nat.le_of_ble_eq_true rfl, Nat.le_of_ble_eq_true rfl⟩ rfl (Nat.le_of_ble_eq_true rfl) ⟨Nat.le_of_ble_eq_true rfl, Nat.le_of_ble_eq_true rfl⟩ (c2 := 0) (s2 := 0) rfl rfl (x_mayBeCast none 0 (Or.inl ⟨rfl, rfl⟩) 2 (by decide)) ?_
            refine g_ifN_ne (a := 1) (tgt := 41) hC dX9_length_32 (by decide) (by omega) (fun h32 => ?_) (fun h32 => ?_)
            · refine g_aload_n hC dX9_length_41 rfl 0 rfl (Or.inr ⟨_, rfl⟩) ?_
              refine g_get hC (by decide +kernel) rfl (hx0.M hM).1 (hx0.M hM).2 0 (by decide) (by decide +kernel) (Or.inl rfl) rfl dX9_length_42 ?_
              refine g_iload_n hC dX9_length_45 rfl 1 rfl ?_
              refine g_aald hC 5 rfl (hx0.Mp rfl).1 (hx0.Mp rfl).2 (pj) rfl (show pj < 10 by omega) (by decide) dX9_length_46 ?_
              refine g_val (w := .null) (congrArg va_rf hp0_p) ?_
              refine g_S (As := [.null]) (st := []) hC 1 dX9_length_47 gX9_length_X9_asRow rfl (by decide +kernel) ⟨Nat.le_of_ble_eq_true rfl, Nat.le_of_ble_eq_true rfl⟩ rfl (Nat.le_of_ble_eq_true rfl) ⟨Nat.le_of_ble_eq_true rfl, Nat.le_of_ble_eq_true rfl⟩ (c2 := 0) (s2 := 0) rfl rfl (x_asRow none 0 (Or.inl ⟨rfl, rfl⟩)) ?_
              refine g_astore_n (lv' := [(3, .null), (0, .ref M), (1, .int (nI pj)), (2, .int (nI 2))]) hC dX9_length_50 rfl (by decide) rfl (Or.inl rfl) ?_
              refine g_aload_n hC dX9_length_51 rfl 0 rfl (Or.inl rfl) ?_
              refine g_ifnonnull (o := none) (tgt := 63) hC dX9_length_52 (by decide) (fun a52 h52 => ?_) (fun h52 => ?_)
              · cases h52
              · refine g_aload_n hC dX9_length_55 rfl 1 rfl (Or.inr ⟨_, rfl⟩) ?_
                refine g_iconst hC dX9_length_56 (v := nI 1) (by decide) ?_
                refine g_Vx (As := [.int (nI 1)]) (st := []) hC 1 dX9_length_57 rfl (hx0.M hM).1 (hx0.M hM).2 gX9_length_X9_failed rfl (by decide +kernel) ⟨Nat.le_of_ble_eq_true rfl, Nat.le_of_ble_eq_true rfl⟩ rfl (Nat.le_of_ble_eq_true rfl) ⟨(Nat.le_of_ble_eq_true rfl), (Nat.le_of_ble_eq_true rfl)⟩ (c2 := 0) (s2 := 0) rfl rfl (x_failed hx0 M hM 1) (fun v1 L1 f1 hp1 => ?_)
                obtain ⟨rfl, hx1⟩ := hp1
                show gW X vwCl 4 L1 f1 0 0 60 [(3, .null), (0, .ref M), (1, .int (nI pj)), (2, .int (nI 2))] [.int (fA 1)]
                refine g_goto (tgt := 67) hC dX9_length_60 (by decide) ?_
                have hc_p : castF S pj 2 = 1 := by unfold castF isO; rw [hk_p] <;> decide
                have hE : s_length S (nI pj) (nI 2) = (fA 1, (aSc (thS S) 1 1)) := by
                  unfold s_length
                  rw [if_pos h4, if_pos hR_t, hpl_p, hpl_t, hc_p, if_pos (show 0 < 1 by decide)] <;> rfl
                exact g_iret hC hR dX9_length_67 ⟨b, congrArg (fun z => some (Value.int (Prod.fst z))) hE.symm, by rw [hE]; exact hx1, xG.rf⟩
            · exfalso; omega
          · have hw_p : wh S pj < S.1 4 := hI.wl hpj hk_p
            have hp0_p : plcF (thS S) b pj = some (b.1 0 (wh S pj)) := plc_k hpj hk_p (by decide)
            refine g_aald hC 5 rfl (hx0.Mp rfl).1 (hx0.Mp rfl).2 (pj) rfl (show pj < 10 by omega) (by decide) dX9_length_27 ?_
            refine g_val (w := .ref (b.1 0 (wh S pj))) (congrArg va_rf hp0_p) ?_
            refine g_iload_n hC dX9_length_28 rfl 2 rfl ?_
            refine g_S (As := [.ref (b.1 0 (wh S pj)), .int (nI 2)]) (st := []) hC 2 dX9_length_29 gX9_length_X9_mayBeCast rfl (by decide +kernel) ⟨Nat.le_of_ble_eq_true rfl, Nat.le_of_ble_eq_true rfl⟩ rfl (Nat.le_of_ble_eq_true rfl) ⟨Nat.le_of_ble_eq_true rfl, Nat.le_of_ble_eq_true rfl⟩ (c2 := 0) (s2 := 0) rfl rfl (x_mayBeCast (some (b.1 0 (wh S pj))) 1 (Or.inr ⟨_, 0, _, rfl, (hx0.B hw_p rfl), Or.inl ⟨rfl, rfl⟩⟩) 2 (by decide)) ?_
            refine g_ifN_ne (a := 0) (tgt := 41) hC dX9_length_32 (by decide) (by omega) (fun h32 => ?_) (fun h32 => ?_)
            · exfalso; omega
            · refine g_aload_n hC dX9_length_35 rfl 0 rfl (Or.inr ⟨_, rfl⟩) ?_
              refine g_iconst hC dX9_length_36 (v := nI 2) (by decide) ?_
              refine g_Vx (As := [.int (nI 2)]) (st := []) hC 1 dX9_length_37 rfl (hx0.M hM).1 (hx0.M hM).2 gX9_length_X9_failed rfl (by decide +kernel) ⟨Nat.le_of_ble_eq_true rfl, Nat.le_of_ble_eq_true rfl⟩ rfl (Nat.le_of_ble_eq_true rfl) ⟨(Nat.le_of_ble_eq_true rfl), (Nat.le_of_ble_eq_true rfl)⟩ (c2 := 0) (s2 := 0) rfl rfl (x_failed hx0 M hM 2) (fun v1 L1 f1 hp1 => ?_)
              obtain ⟨rfl, hx1⟩ := hp1
              show gW X vwCl 4 L1 f1 0 0 40 [(0, .ref M), (1, .int (nI pj)), (2, .int (nI 2))] [.int (fA 2)]
              have hc_p : castF S pj 2 = 2 := by unfold castF isO; rw [hk_p] <;> decide
              have hE : s_length S (nI pj) (nI 2) = (fA 2, (aSc (thS S) 1 2)) := by
                unfold s_length
                rw [if_pos h4, if_pos hR_t, hpl_p, hpl_t, hc_p, if_pos (show 0 < 2 by decide)] <;> rfl
              exact g_iret hC hR dX9_length_40 ⟨b, congrArg (fun z => some (Value.int (Prod.fst z))) hE.symm, by rw [hE]; exact hx1, xG.rf⟩
          · have hw_p : wh S pj < S.1 7 := hI.ws hpj hk_p
            have hp0_p : plcF (thS S) b pj = some (b.1 2 (wh S pj)) := plc_k hpj hk_p (by decide)
            refine g_aald hC 5 rfl (hx0.Mp rfl).1 (hx0.Mp rfl).2 (pj) rfl (show pj < 10 by omega) (by decide) dX9_length_27 ?_
            refine g_val (w := .ref (b.1 2 (wh S pj))) (congrArg va_rf hp0_p) ?_
            refine g_iload_n hC dX9_length_28 rfl 2 rfl ?_
            refine g_S (As := [.ref (b.1 2 (wh S pj)), .int (nI 2)]) (st := []) hC 2 dX9_length_29 gX9_length_X9_mayBeCast rfl (by decide +kernel) ⟨Nat.le_of_ble_eq_true rfl, Nat.le_of_ble_eq_true rfl⟩ rfl (Nat.le_of_ble_eq_true rfl) ⟨Nat.le_of_ble_eq_true rfl, Nat.le_of_ble_eq_true rfl⟩ (c2 := 0) (s2 := 0) rfl rfl (x_mayBeCast (some (b.1 2 (wh S pj))) 2 (Or.inr ⟨_, 4, _, rfl, (hx0.G hw_p rfl), Or.inr (Or.inl ⟨rfl, rfl⟩)⟩) 2 (by decide)) ?_
            refine g_ifN_ne (a := 1) (tgt := 41) hC dX9_length_32 (by decide) (by omega) (fun h32 => ?_) (fun h32 => ?_)
            · refine g_aload_n hC dX9_length_41 rfl 0 rfl (Or.inr ⟨_, rfl⟩) ?_
              refine g_get hC (by decide +kernel) rfl (hx0.M hM).1 (hx0.M hM).2 0 (by decide) (by decide +kernel) (Or.inl rfl) rfl dX9_length_42 ?_
              refine g_iload_n hC dX9_length_45 rfl 1 rfl ?_
              refine g_aald hC 5 rfl (hx0.Mp rfl).1 (hx0.Mp rfl).2 (pj) rfl (show pj < 10 by omega) (by decide) dX9_length_46 ?_
              refine g_val (w := .ref (b.1 2 (wh S pj))) (congrArg va_rf hp0_p) ?_
              refine g_S (As := [.ref (b.1 2 (wh S pj))]) (st := []) hC 1 dX9_length_47 gX9_length_X9_asRow rfl (by decide +kernel) ⟨Nat.le_of_ble_eq_true rfl, Nat.le_of_ble_eq_true rfl⟩ rfl (Nat.le_of_ble_eq_true rfl) ⟨Nat.le_of_ble_eq_true rfl, Nat.le_of_ble_eq_true rfl⟩ (c2 := 0) (s2 := 0) rfl rfl (x_asRow (some (b.1 2 (wh S pj))) 2 (Or.inr ⟨_, 4, _, rfl, (hx0.G hw_p rfl), Or.inr (Or.inl ⟨rfl, rfl⟩)⟩)) ?_
              refine g_astore_n (lv' := [(3, .ref (b.1 2 (wh S pj))), (0, .ref M), (1, .int (nI pj)), (2, .int (nI 2))]) hC dX9_length_50 rfl (by decide) rfl (Or.inr ⟨_, rfl⟩) ?_
              refine g_aload_n hC dX9_length_51 rfl 0 rfl (Or.inr ⟨_, rfl⟩) ?_
              refine g_ifnonnull (o := some (b.1 2 (wh S pj))) (tgt := 63) hC dX9_length_52 (by decide) (fun a52 h52 => ?_) (fun h52 => ?_)
              · refine g_aload_n hC dX9_length_63 rfl 0 rfl (Or.inr ⟨_, rfl⟩) ?_
                refine g_A (As := []) (st := []) hC 0 dX9_length_64 rfl (hx0.G hw_p rfl).1 (hx0.G hw_p rfl).2 gX9_length_X6_cellCount_u72X6 rfl (gKK_D ⟨"KeptTerms$Row", "cellCount", "()I"⟩ (by decide)) (by decide +kernel) ⟨Nat.le_of_ble_eq_true rfl, Nat.le_of_ble_eq_true rfl⟩ rfl (Nat.le_of_ble_eq_true rfl) ⟨Nat.le_of_ble_eq_true rfl, Nat.le_of_ble_eq_true rfl⟩ (c2 := 0) (s2 := 0) rfl rfl (x_6_cellCount _ _ _ _ (hx0.isS hw_p rfl (hI.2.2.2.1 _ hw_p))) ?_
                have hc_p : castF S pj 2 = 0 := by unfold castF isO; rw [hk_p] <;> decide
                have hlg_p : longS S pj = S.2.1 8 (wh S pj) := by unfold longS; rw [hk_p] <;> rfl
                have hE : s_length S (nI pj) (nI 2) = (nI (S.2.1 8 (wh S pj)), (thS S)) := by
                  unfold s_length
                  rw [if_pos h4, if_pos hR_t, hpl_p, hpl_t, hc_p, if_neg (show ¬ 0 < 0 by decide), hlg_p] <;> rfl
                exact g_iret hC hR dX9_length_67 ⟨b, congrArg (fun z => some (Value.int (Prod.fst z))) hE.symm, by rw [hE]; exact hx0, xG.rf⟩
              · cases h52
            · exfalso; omega
          · have hw_p : wh S pj < S.1 10 := hI.wr hpj hk_p
            have hp0_p : plcF (thS S) b pj = some (b.1 4 (wh S pj)) := plc_k hpj hk_p (by decide)
            refine g_aald hC 5 rfl (hx0.Mp rfl).1 (hx0.Mp rfl).2 (pj) rfl (show pj < 10 by omega) (by decide) dX9_length_27 ?_
            refine g_val (w := .ref (b.1 4 (wh S pj))) (congrArg va_rf hp0_p) ?_
            refine g_iload_n hC dX9_length_28 rfl 2 rfl ?_
            refine g_S (As := [.ref (b.1 4 (wh S pj)), .int (nI 2)]) (st := []) hC 2 dX9_length_29 gX9_length_X9_mayBeCast rfl (by decide +kernel) ⟨Nat.le_of_ble_eq_true rfl, Nat.le_of_ble_eq_true rfl⟩ rfl (Nat.le_of_ble_eq_true rfl) ⟨Nat.le_of_ble_eq_true rfl, Nat.le_of_ble_eq_true rfl⟩ (c2 := 0) (s2 := 0) rfl rfl (x_mayBeCast (some (b.1 4 (wh S pj))) 3 (Or.inr ⟨_, 3, _, rfl, (hx0.W hw_p rfl), Or.inr (Or.inr (Or.inl ⟨rfl, rfl⟩))⟩) 2 (by decide)) ?_
            refine g_ifN_ne (a := 0) (tgt := 41) hC dX9_length_32 (by decide) (by omega) (fun h32 => ?_) (fun h32 => ?_)
            · exfalso; omega
            · refine g_aload_n hC dX9_length_35 rfl 0 rfl (Or.inr ⟨_, rfl⟩) ?_
              refine g_iconst hC dX9_length_36 (v := nI 2) (by decide) ?_
              refine g_Vx (As := [.int (nI 2)]) (st := []) hC 1 dX9_length_37 rfl (hx0.M hM).1 (hx0.M hM).2 gX9_length_X9_failed rfl (by decide +kernel) ⟨Nat.le_of_ble_eq_true rfl, Nat.le_of_ble_eq_true rfl⟩ rfl (Nat.le_of_ble_eq_true rfl) ⟨(Nat.le_of_ble_eq_true rfl), (Nat.le_of_ble_eq_true rfl)⟩ (c2 := 0) (s2 := 0) rfl rfl (x_failed hx0 M hM 2) (fun v1 L1 f1 hp1 => ?_)
              obtain ⟨rfl, hx1⟩ := hp1
              show gW X vwCl 4 L1 f1 0 0 40 [(0, .ref M), (1, .int (nI pj)), (2, .int (nI 2))] [.int (fA 2)]
              have hc_p : castF S pj 2 = 2 := by unfold castF isO; rw [hk_p] <;> decide
              have hE : s_length S (nI pj) (nI 2) = (fA 2, (aSc (thS S) 1 2)) := by
                unfold s_length
                rw [if_pos h4, if_pos hR_t, hpl_p, hpl_t, hc_p, if_pos (show 0 < 2 by decide)] <;> rfl
              exact g_iret hC hR dX9_length_40 ⟨b, congrArg (fun z => some (Value.int (Prod.fst z))) hE.symm, by rw [hE]; exact hx1, xG.rf⟩
          · have hw_p : wh S pj < S.1 13 := hI.wt hpj (by omega)
            have hb_p : S.2.1 14 (wh S pj) = 0 := by have := ((hI.2.1 _ hpj).2.2.2.2.2 (by omega)).2; omega
            have hp0_p : plcF (thS S) b pj = some (b.1 6 (wh S pj)) := plc_k hpj hk_p (by decide)
            refine g_aald hC 5 rfl (hx0.Mp rfl).1 (hx0.Mp rfl).2 (pj) rfl (show pj < 10 by omega) (by decide) dX9_length_27 ?_
            refine g_val (w := .ref (b.1 6 (wh S pj))) (congrArg va_rf hp0_p) ?_
            refine g_iload_n hC dX9_length_28 rfl 2 rfl ?_
            refine g_S (As := [.ref (b.1 6 (wh S pj)), .int (nI 2)]) (st := []) hC 2 dX9_length_29 gX9_length_X9_mayBeCast rfl (by decide +kernel) ⟨Nat.le_of_ble_eq_true rfl, Nat.le_of_ble_eq_true rfl⟩ rfl (Nat.le_of_ble_eq_true rfl) ⟨Nat.le_of_ble_eq_true rfl, Nat.le_of_ble_eq_true rfl⟩ (c2 := 0) (s2 := 0) rfl rfl (x_mayBeCast (some (b.1 6 (wh S pj))) 4 (Or.inr ⟨_, 5, _, rfl, (hx0.T hw_p rfl hb_p), Or.inr (Or.inr (Or.inr (Or.inl ⟨rfl, rfl⟩)))⟩) 2 (by decide)) ?_
            refine g_ifN_ne (a := 0) (tgt := 41) hC dX9_length_32 (by decide) (by omega) (fun h32 => ?_) (fun h32 => ?_)
            · exfalso; omega
            · refine g_aload_n hC dX9_length_35 rfl 0 rfl (Or.inr ⟨_, rfl⟩) ?_
              refine g_iconst hC dX9_length_36 (v := nI 2) (by decide) ?_
              refine g_Vx (As := [.int (nI 2)]) (st := []) hC 1 dX9_length_37 rfl (hx0.M hM).1 (hx0.M hM).2 gX9_length_X9_failed rfl (by decide +kernel) ⟨Nat.le_of_ble_eq_true rfl, Nat.le_of_ble_eq_true rfl⟩ rfl (Nat.le_of_ble_eq_true rfl) ⟨(Nat.le_of_ble_eq_true rfl), (Nat.le_of_ble_eq_true rfl)⟩ (c2 := 0) (s2 := 0) rfl rfl (x_failed hx0 M hM 2) (fun v1 L1 f1 hp1 => ?_)
              obtain ⟨rfl, hx1⟩ := hp1
              show gW X vwCl 4 L1 f1 0 0 40 [(0, .ref M), (1, .int (nI pj)), (2, .int (nI 2))] [.int (fA 2)]
              have hc_p : castF S pj 2 = 2 := by unfold castF isO; rw [hk_p] <;> decide
              have hE : s_length S (nI pj) (nI 2) = (fA 2, (aSc (thS S) 1 2)) := by
                unfold s_length
                rw [if_pos h4, if_pos hR_t, hpl_p, hpl_t, hc_p, if_pos (show 0 < 2 by decide)] <;> rfl
              exact g_iret hC hR dX9_length_40 ⟨b, congrArg (fun z => some (Value.int (Prod.fst z))) hE.symm, by rw [hE]; exact hx1, xG.rf⟩
          · have hw_p : wh S pj < S.1 13 := hI.wt hpj (by omega)
            have hb_p : S.2.1 14 (wh S pj) ≠ 0 := by have := ((hI.2.1 _ hpj).2.2.2.2.2 (by omega)).2; omega
            have hp0_p : plcF (thS S) b pj = some (b.1 6 (wh S pj)) := plc_k hpj hk_p (by decide)
            refine g_aald hC 5 rfl (hx0.Mp rfl).1 (hx0.Mp rfl).2 (pj) rfl (show pj < 10 by omega) (by decide) dX9_length_27 ?_
            refine g_val (w := .ref (b.1 6 (wh S pj))) (congrArg va_rf hp0_p) ?_
            refine g_iload_n hC dX9_length_28 rfl 2 rfl ?_
            refine g_S (As := [.ref (b.1 6 (wh S pj)), .int (nI 2)]) (st := []) hC 2 dX9_length_29 gX9_length_X9_mayBeCast rfl (by decide +kernel) ⟨Nat.le_of_ble_eq_true rfl, Nat.le_of_ble_eq_true rfl⟩ rfl (Nat.le_of_ble_eq_true rfl) ⟨Nat.le_of_ble_eq_true rfl, Nat.le_of_ble_eq_true rfl⟩ (c2 := 0) (s2 := 0) rfl rfl (x_mayBeCast (some (b.1 6 (wh S pj))) 5 (Or.inr ⟨_, 1, _, rfl, (hx0.K hw_p rfl hb_p), Or.inr (Or.inr (Or.inr (Or.inr ⟨rfl, rfl⟩)))⟩) 2 (by decide)) ?_
            refine g_ifN_ne (a := 0) (tgt := 41) hC dX9_length_32 (by decide) (by omega) (fun h32 => ?_) (fun h32 => ?_)
            · exfalso; omega
            · refine g_aload_n hC dX9_length_35 rfl 0 rfl (Or.inr ⟨_, rfl⟩) ?_
              refine g_iconst hC dX9_length_36 (v := nI 2) (by decide) ?_
              refine g_Vx (As := [.int (nI 2)]) (st := []) hC 1 dX9_length_37 rfl (hx0.M hM).1 (hx0.M hM).2 gX9_length_X9_failed rfl (by decide +kernel) ⟨Nat.le_of_ble_eq_true rfl, Nat.le_of_ble_eq_true rfl⟩ rfl (Nat.le_of_ble_eq_true rfl) ⟨(Nat.le_of_ble_eq_true rfl), (Nat.le_of_ble_eq_true rfl)⟩ (c2 := 0) (s2 := 0) rfl rfl (x_failed hx0 M hM 2) (fun v1 L1 f1 hp1 => ?_)
              obtain ⟨rfl, hx1⟩ := hp1
              show gW X vwCl 4 L1 f1 0 0 40 [(0, .ref M), (1, .int (nI pj)), (2, .int (nI 2))] [.int (fA 2)]
              have hc_p : castF S pj 2 = 2 := by unfold castF isO; rw [hk_p] <;> decide
              have hE : s_length S (nI pj) (nI 2) = (fA 2, (aSc (thS S) 1 2)) := by
                unfold s_length
                rw [if_pos h4, if_pos hR_t, hpl_p, hpl_t, hc_p, if_pos (show 0 < 2 by decide)] <;> rfl
              exact g_iret hC hR dX9_length_40 ⟨b, congrArg (fun z => some (Value.int (Prod.fst z))) hE.symm, by rw [hE]; exact hx1, xG.rf⟩
        · have hpl_t : pl (nI 3) = 3 := by decide
          refine g_aload_n hC dX9_length_22 rfl 0 rfl (Or.inr ⟨_, rfl⟩) ?_
          refine g_get hC (by decide +kernel) rfl (hx0.M hM).1 (hx0.M hM).2 0 (by decide) (by decide +kernel) (Or.inl rfl) rfl dX9_length_23 ?_
          refine g_iload_n hC dX9_length_26 rfl 1 rfl ?_
          have h5_p := hI.k5 hpj
          rcases (show kd S pj = 0 ∨ kd S pj = 1 ∨ kd S pj = 2 ∨ kd S pj = 3 ∨ kd S pj = 4 ∨ kd S pj = 5 by omega) with hk_p | hk_p | hk_p | hk_p | hk_p | hk_p
          · have hp0_p : plcF (thS S) b pj = none := plc_0 hpj hk_p
            refine g_aald hC 5 rfl (hx0.Mp rfl).1 (hx0.Mp rfl).2 (pj) rfl (show pj < 10 by omega) (by decide) dX9_length_27 ?_
            refine g_val (w := .null) (congrArg va_rf hp0_p) ?_
            refine g_iload_n hC dX9_length_28 rfl 2 rfl ?_
            refine g_S (As := [.null, .int (nI 3)]) (st := []) hC 2 dX9_length_29 gX9_length_X9_mayBeCast rfl (by decide +kernel) ⟨Nat.le_of_ble_eq_true rfl, Nat.le_of_ble_eq_true rfl⟩ rfl (Nat.le_of_ble_eq_true rfl) ⟨Nat.le_of_ble_eq_true rfl, Nat.le_of_ble_eq_true rfl⟩ (c2 := 0) (s2 := 0) rfl rfl (x_mayBeCast none 0 (Or.inl ⟨rfl, rfl⟩) 3 (by decide)) ?_
            refine g_ifN_ne (a := 1) (tgt := 41) hC dX9_length_32 (by decide) (by omega) (fun h32 => ?_) (fun h32 => ?_)
            · refine g_aload_n hC dX9_length_41 rfl 0 rfl (Or.inr ⟨_, rfl⟩) ?_
              refine g_get hC (by decide +kernel) rfl (hx0.M hM).1 (hx0.M hM).2 0 (by decide) (by decide +kernel) (Or.inl rfl) rfl dX9_length_42 ?_
              refine g_iload_n hC dX9_length_45 rfl 1 rfl ?_
              refine g_aald hC 5 rfl (hx0.Mp rfl).1 (hx0.Mp rfl).2 (pj) rfl (show pj < 10 by omega) (by decide) dX9_length_46 ?_
              refine g_val (w := .null) (congrArg va_rf hp0_p) ?_
              refine g_S (As := [.null]) (st := []) hC 1 dX9_length_47 gX9_length_X9_asRow rfl (by decide +kernel) ⟨Nat.le_of_ble_eq_true rfl, Nat.le_of_ble_eq_true rfl⟩ rfl (Nat.le_of_ble_eq_true rfl) ⟨Nat.le_of_ble_eq_true rfl, Nat.le_of_ble_eq_true rfl⟩ (c2 := 0) (s2 := 0) rfl rfl (x_asRow none 0 (Or.inl ⟨rfl, rfl⟩)) ?_
              refine g_astore_n (lv' := [(3, .null), (0, .ref M), (1, .int (nI pj)), (2, .int (nI 3))]) hC dX9_length_50 rfl (by decide) rfl (Or.inl rfl) ?_
              refine g_aload_n hC dX9_length_51 rfl 0 rfl (Or.inl rfl) ?_
              refine g_ifnonnull (o := none) (tgt := 63) hC dX9_length_52 (by decide) (fun a52 h52 => ?_) (fun h52 => ?_)
              · cases h52
              · refine g_aload_n hC dX9_length_55 rfl 1 rfl (Or.inr ⟨_, rfl⟩) ?_
                refine g_iconst hC dX9_length_56 (v := nI 1) (by decide) ?_
                refine g_Vx (As := [.int (nI 1)]) (st := []) hC 1 dX9_length_57 rfl (hx0.M hM).1 (hx0.M hM).2 gX9_length_X9_failed rfl (by decide +kernel) ⟨Nat.le_of_ble_eq_true rfl, Nat.le_of_ble_eq_true rfl⟩ rfl (Nat.le_of_ble_eq_true rfl) ⟨(Nat.le_of_ble_eq_true rfl), (Nat.le_of_ble_eq_true rfl)⟩ (c2 := 0) (s2 := 0) rfl rfl (x_failed hx0 M hM 1) (fun v1 L1 f1 hp1 => ?_)
                obtain ⟨rfl, hx1⟩ := hp1
                show gW X vwCl 4 L1 f1 0 0 60 [(3, .null), (0, .ref M), (1, .int (nI pj)), (2, .int (nI 3))] [.int (fA 1)]
                refine g_goto (tgt := 67) hC dX9_length_60 (by decide) ?_
                have hc_p : castF S pj 3 = 1 := by unfold castF isO; rw [hk_p] <;> decide
                have hE : s_length S (nI pj) (nI 3) = (fA 1, (aSc (thS S) 1 1)) := by
                  unfold s_length
                  rw [if_pos h4, if_pos hR_t, hpl_p, hpl_t, hc_p, if_pos (show 0 < 1 by decide)] <;> rfl
                exact g_iret hC hR dX9_length_67 ⟨b, congrArg (fun z => some (Value.int (Prod.fst z))) hE.symm, by rw [hE]; exact hx1, xG.rf⟩
            · exfalso; omega
          · have hw_p : wh S pj < S.1 4 := hI.wl hpj hk_p
            have hp0_p : plcF (thS S) b pj = some (b.1 0 (wh S pj)) := plc_k hpj hk_p (by decide)
            refine g_aald hC 5 rfl (hx0.Mp rfl).1 (hx0.Mp rfl).2 (pj) rfl (show pj < 10 by omega) (by decide) dX9_length_27 ?_
            refine g_val (w := .ref (b.1 0 (wh S pj))) (congrArg va_rf hp0_p) ?_
            refine g_iload_n hC dX9_length_28 rfl 2 rfl ?_
            refine g_S (As := [.ref (b.1 0 (wh S pj)), .int (nI 3)]) (st := []) hC 2 dX9_length_29 gX9_length_X9_mayBeCast rfl (by decide +kernel) ⟨Nat.le_of_ble_eq_true rfl, Nat.le_of_ble_eq_true rfl⟩ rfl (Nat.le_of_ble_eq_true rfl) ⟨Nat.le_of_ble_eq_true rfl, Nat.le_of_ble_eq_true rfl⟩ (c2 := 0) (s2 := 0) rfl rfl (x_mayBeCast (some (b.1 0 (wh S pj))) 1 (Or.inr ⟨_, 0, _, rfl, (hx0.B hw_p rfl), Or.inl ⟨rfl, rfl⟩⟩) 3 (by decide)) ?_
            refine g_ifN_ne (a := 0) (tgt := 41) hC dX9_length_32 (by decide) (by omega) (fun h32 => ?_) (fun h32 => ?_)
            · exfalso; omega
            · refine g_aload_n hC dX9_length_35 rfl 0 rfl (Or.inr ⟨_, rfl⟩) ?_
              refine g_iconst hC dX9_length_36 (v := nI 2) (by decide) ?_
              refine g_Vx (As := [.int (nI 2)]) (st := []) hC 1 dX9_length_37 rfl (hx0.M hM).1 (hx0.M hM).2 gX9_length_X9_failed rfl (by decide +kernel) ⟨Nat.le_of_ble_eq_true rfl, Nat.le_of_ble_eq_true rfl⟩ rfl (Nat.le_of_ble_eq_true rfl) ⟨(Nat.le_of_ble_eq_true rfl), (Nat.le_of_ble_eq_true rfl)⟩ (c2 := 0) (s2 := 0) rfl rfl (x_failed hx0 M hM 2) (fun v1 L1 f1 hp1 => ?_)
              obtain ⟨rfl, hx1⟩ := hp1
              show gW X vwCl 4 L1 f1 0 0 40 [(0, .ref M), (1, .int (nI pj)), (2, .int (nI 3))] [.int (fA 2)]
              have hc_p : castF S pj 3 = 2 := by unfold castF isO; rw [hk_p] <;> decide
              have hE : s_length S (nI pj) (nI 3) = (fA 2, (aSc (thS S) 1 2)) := by
                unfold s_length
                rw [if_pos h4, if_pos hR_t, hpl_p, hpl_t, hc_p, if_pos (show 0 < 2 by decide)] <;> rfl
              exact g_iret hC hR dX9_length_40 ⟨b, congrArg (fun z => some (Value.int (Prod.fst z))) hE.symm, by rw [hE]; exact hx1, xG.rf⟩
          · have hw_p : wh S pj < S.1 7 := hI.ws hpj hk_p
            have hp0_p : plcF (thS S) b pj = some (b.1 2 (wh S pj)) := plc_k hpj hk_p (by decide)
            refine g_aald hC 5 rfl (hx0.Mp rfl).1 (hx0.Mp rfl).2 (pj) rfl (show pj < 10 by omega) (by decide) dX9_length_27 ?_
            refine g_val (w := .ref (b.1 2 (wh S pj))) (congrArg va_rf hp0_p) ?_
            refine g_iload_n hC dX9_length_28 rfl 2 rfl ?_
            refine g_S (As := [.ref (b.1 2 (wh S pj)), .int (nI 3)]) (st := []) hC 2 dX9_length_29 gX9_length_X9_mayBeCast rfl (by decide +kernel) ⟨Nat.le_of_ble_eq_true rfl, Nat.le_of_ble_eq_true rfl⟩ rfl (Nat.le_of_ble_eq_true rfl) ⟨Nat.le_of_ble_eq_true rfl, Nat.le_of_ble_eq_true rfl⟩ (c2 := 0) (s2 := 0) rfl rfl (x_mayBeCast (some (b.1 2 (wh S pj))) 2 (Or.inr ⟨_, 4, _, rfl, (hx0.G hw_p rfl), Or.inr (Or.inl ⟨rfl, rfl⟩)⟩) 3 (by decide)) ?_
            refine g_ifN_ne (a := 0) (tgt := 41) hC dX9_length_32 (by decide) (by omega) (fun h32 => ?_) (fun h32 => ?_)
            · exfalso; omega
            · refine g_aload_n hC dX9_length_35 rfl 0 rfl (Or.inr ⟨_, rfl⟩) ?_
              refine g_iconst hC dX9_length_36 (v := nI 2) (by decide) ?_
              refine g_Vx (As := [.int (nI 2)]) (st := []) hC 1 dX9_length_37 rfl (hx0.M hM).1 (hx0.M hM).2 gX9_length_X9_failed rfl (by decide +kernel) ⟨Nat.le_of_ble_eq_true rfl, Nat.le_of_ble_eq_true rfl⟩ rfl (Nat.le_of_ble_eq_true rfl) ⟨(Nat.le_of_ble_eq_true rfl), (Nat.le_of_ble_eq_true rfl)⟩ (c2 := 0) (s2 := 0) rfl rfl (x_failed hx0 M hM 2) (fun v1 L1 f1 hp1 => ?_)
              obtain ⟨rfl, hx1⟩ := hp1
              show gW X vwCl 4 L1 f1 0 0 40 [(0, .ref M), (1, .int (nI pj)), (2, .int (nI 3))] [.int (fA 2)]
              have hc_p : castF S pj 3 = 2 := by unfold castF isO; rw [hk_p] <;> decide
              have hE : s_length S (nI pj) (nI 3) = (fA 2, (aSc (thS S) 1 2)) := by
                unfold s_length
                rw [if_pos h4, if_pos hR_t, hpl_p, hpl_t, hc_p, if_pos (show 0 < 2 by decide)] <;> rfl
              exact g_iret hC hR dX9_length_40 ⟨b, congrArg (fun z => some (Value.int (Prod.fst z))) hE.symm, by rw [hE]; exact hx1, xG.rf⟩
          · have hw_p : wh S pj < S.1 10 := hI.wr hpj hk_p
            have hp0_p : plcF (thS S) b pj = some (b.1 4 (wh S pj)) := plc_k hpj hk_p (by decide)
            refine g_aald hC 5 rfl (hx0.Mp rfl).1 (hx0.Mp rfl).2 (pj) rfl (show pj < 10 by omega) (by decide) dX9_length_27 ?_
            refine g_val (w := .ref (b.1 4 (wh S pj))) (congrArg va_rf hp0_p) ?_
            refine g_iload_n hC dX9_length_28 rfl 2 rfl ?_
            refine g_S (As := [.ref (b.1 4 (wh S pj)), .int (nI 3)]) (st := []) hC 2 dX9_length_29 gX9_length_X9_mayBeCast rfl (by decide +kernel) ⟨Nat.le_of_ble_eq_true rfl, Nat.le_of_ble_eq_true rfl⟩ rfl (Nat.le_of_ble_eq_true rfl) ⟨Nat.le_of_ble_eq_true rfl, Nat.le_of_ble_eq_true rfl⟩ (c2 := 0) (s2 := 0) rfl rfl (x_mayBeCast (some (b.1 4 (wh S pj))) 3 (Or.inr ⟨_, 3, _, rfl, (hx0.W hw_p rfl), Or.inr (Or.inr (Or.inl ⟨rfl, rfl⟩))⟩) 3 (by decide)) ?_
            refine g_ifN_ne (a := 1) (tgt := 41) hC dX9_length_32 (by decide) (by omega) (fun h32 => ?_) (fun h32 => ?_)
            · refine g_aload_n hC dX9_length_41 rfl 0 rfl (Or.inr ⟨_, rfl⟩) ?_
              refine g_get hC (by decide +kernel) rfl (hx0.M hM).1 (hx0.M hM).2 0 (by decide) (by decide +kernel) (Or.inl rfl) rfl dX9_length_42 ?_
              refine g_iload_n hC dX9_length_45 rfl 1 rfl ?_
              refine g_aald hC 5 rfl (hx0.Mp rfl).1 (hx0.Mp rfl).2 (pj) rfl (show pj < 10 by omega) (by decide) dX9_length_46 ?_
              refine g_val (w := .ref (b.1 4 (wh S pj))) (congrArg va_rf hp0_p) ?_
              refine g_S (As := [.ref (b.1 4 (wh S pj))]) (st := []) hC 1 dX9_length_47 gX9_length_X9_asRow rfl (by decide +kernel) ⟨Nat.le_of_ble_eq_true rfl, Nat.le_of_ble_eq_true rfl⟩ rfl (Nat.le_of_ble_eq_true rfl) ⟨Nat.le_of_ble_eq_true rfl, Nat.le_of_ble_eq_true rfl⟩ (c2 := 0) (s2 := 0) rfl rfl (x_asRow (some (b.1 4 (wh S pj))) 3 (Or.inr ⟨_, 3, _, rfl, (hx0.W hw_p rfl), Or.inr (Or.inr (Or.inl ⟨rfl, rfl⟩))⟩)) ?_
              refine g_astore_n (lv' := [(3, .ref (b.1 4 (wh S pj))), (0, .ref M), (1, .int (nI pj)), (2, .int (nI 3))]) hC dX9_length_50 rfl (by decide) rfl (Or.inr ⟨_, rfl⟩) ?_
              refine g_aload_n hC dX9_length_51 rfl 0 rfl (Or.inr ⟨_, rfl⟩) ?_
              refine g_ifnonnull (o := some (b.1 4 (wh S pj))) (tgt := 63) hC dX9_length_52 (by decide) (fun a52 h52 => ?_) (fun h52 => ?_)
              · refine g_aload_n hC dX9_length_63 rfl 0 rfl (Or.inr ⟨_, rfl⟩) ?_
                refine g_A (As := []) (st := []) hC 0 dX9_length_64 rfl (hx0.W hw_p rfl).1 (hx0.W hw_p rfl).2 gX9_length_X5_cellCount_u72X5 rfl (gKK_D ⟨"KeptTerms$Row", "cellCount", "()I"⟩ (by decide)) (by decide +kernel) ⟨Nat.le_of_ble_eq_true rfl, Nat.le_of_ble_eq_true rfl⟩ rfl (Nat.le_of_ble_eq_true rfl) ⟨Nat.le_of_ble_eq_true rfl, Nat.le_of_ble_eq_true rfl⟩ (c2 := 0) (s2 := 0) rfl rfl (x_5_cellCount _ _ _ _ (isR.B hx0 hw_p rfl (hI.2.2.2.2.1 _ hw_p))) ?_
                have hc_p : castF S pj 3 = 0 := by unfold castF isO; rw [hk_p] <;> decide
                have hlg_p : longS S pj = S.2.1 11 (wh S pj) := by unfold longS; rw [hk_p] <;> rfl
                have hE : s_length S (nI pj) (nI 3) = (nI (S.2.1 11 (wh S pj)), (thS S)) := by
                  unfold s_length
                  rw [if_pos h4, if_pos hR_t, hpl_p, hpl_t, hc_p, if_neg (show ¬ 0 < 0 by decide), hlg_p] <;> rfl
                exact g_iret hC hR dX9_length_67 ⟨b, congrArg (fun z => some (Value.int (Prod.fst z))) hE.symm, by rw [hE]; exact hx0, xG.rf⟩
              · cases h52
            · exfalso; omega
          · have hw_p : wh S pj < S.1 13 := hI.wt hpj (by omega)
            have hb_p : S.2.1 14 (wh S pj) = 0 := by have := ((hI.2.1 _ hpj).2.2.2.2.2 (by omega)).2; omega
            have hp0_p : plcF (thS S) b pj = some (b.1 6 (wh S pj)) := plc_k hpj hk_p (by decide)
            refine g_aald hC 5 rfl (hx0.Mp rfl).1 (hx0.Mp rfl).2 (pj) rfl (show pj < 10 by omega) (by decide) dX9_length_27 ?_
            refine g_val (w := .ref (b.1 6 (wh S pj))) (congrArg va_rf hp0_p) ?_
            refine g_iload_n hC dX9_length_28 rfl 2 rfl ?_
            refine g_S (As := [.ref (b.1 6 (wh S pj)), .int (nI 3)]) (st := []) hC 2 dX9_length_29 gX9_length_X9_mayBeCast rfl (by decide +kernel) ⟨Nat.le_of_ble_eq_true rfl, Nat.le_of_ble_eq_true rfl⟩ rfl (Nat.le_of_ble_eq_true rfl) ⟨Nat.le_of_ble_eq_true rfl, Nat.le_of_ble_eq_true rfl⟩ (c2 := 0) (s2 := 0) rfl rfl (x_mayBeCast (some (b.1 6 (wh S pj))) 4 (Or.inr ⟨_, 5, _, rfl, (hx0.T hw_p rfl hb_p), Or.inr (Or.inr (Or.inr (Or.inl ⟨rfl, rfl⟩)))⟩) 3 (by decide)) ?_
            refine g_ifN_ne (a := 0) (tgt := 41) hC dX9_length_32 (by decide) (by omega) (fun h32 => ?_) (fun h32 => ?_)
            · exfalso; omega
            · refine g_aload_n hC dX9_length_35 rfl 0 rfl (Or.inr ⟨_, rfl⟩) ?_
              refine g_iconst hC dX9_length_36 (v := nI 2) (by decide) ?_
              refine g_Vx (As := [.int (nI 2)]) (st := []) hC 1 dX9_length_37 rfl (hx0.M hM).1 (hx0.M hM).2 gX9_length_X9_failed rfl (by decide +kernel) ⟨Nat.le_of_ble_eq_true rfl, Nat.le_of_ble_eq_true rfl⟩ rfl (Nat.le_of_ble_eq_true rfl) ⟨(Nat.le_of_ble_eq_true rfl), (Nat.le_of_ble_eq_true rfl)⟩ (c2 := 0) (s2 := 0) rfl rfl (x_failed hx0 M hM 2) (fun v1 L1 f1 hp1 => ?_)
              obtain ⟨rfl, hx1⟩ := hp1
              show gW X vwCl 4 L1 f1 0 0 40 [(0, .ref M), (1, .int (nI pj)), (2, .int (nI 3))] [.int (fA 2)]
              have hc_p : castF S pj 3 = 2 := by unfold castF isO; rw [hk_p] <;> decide
              have hE : s_length S (nI pj) (nI 3) = (fA 2, (aSc (thS S) 1 2)) := by
                unfold s_length
                rw [if_pos h4, if_pos hR_t, hpl_p, hpl_t, hc_p, if_pos (show 0 < 2 by decide)] <;> rfl
              exact g_iret hC hR dX9_length_40 ⟨b, congrArg (fun z => some (Value.int (Prod.fst z))) hE.symm, by rw [hE]; exact hx1, xG.rf⟩
          · have hw_p : wh S pj < S.1 13 := hI.wt hpj (by omega)
            have hb_p : S.2.1 14 (wh S pj) ≠ 0 := by have := ((hI.2.1 _ hpj).2.2.2.2.2 (by omega)).2; omega
            have hp0_p : plcF (thS S) b pj = some (b.1 6 (wh S pj)) := plc_k hpj hk_p (by decide)
            refine g_aald hC 5 rfl (hx0.Mp rfl).1 (hx0.Mp rfl).2 (pj) rfl (show pj < 10 by omega) (by decide) dX9_length_27 ?_
            refine g_val (w := .ref (b.1 6 (wh S pj))) (congrArg va_rf hp0_p) ?_
            refine g_iload_n hC dX9_length_28 rfl 2 rfl ?_
            refine g_S (As := [.ref (b.1 6 (wh S pj)), .int (nI 3)]) (st := []) hC 2 dX9_length_29 gX9_length_X9_mayBeCast rfl (by decide +kernel) ⟨Nat.le_of_ble_eq_true rfl, Nat.le_of_ble_eq_true rfl⟩ rfl (Nat.le_of_ble_eq_true rfl) ⟨Nat.le_of_ble_eq_true rfl, Nat.le_of_ble_eq_true rfl⟩ (c2 := 0) (s2 := 0) rfl rfl (x_mayBeCast (some (b.1 6 (wh S pj))) 5 (Or.inr ⟨_, 1, _, rfl, (hx0.K hw_p rfl hb_p), Or.inr (Or.inr (Or.inr (Or.inr ⟨rfl, rfl⟩)))⟩) 3 (by decide)) ?_
            refine g_ifN_ne (a := 0) (tgt := 41) hC dX9_length_32 (by decide) (by omega) (fun h32 => ?_) (fun h32 => ?_)
            · exfalso; omega
            · refine g_aload_n hC dX9_length_35 rfl 0 rfl (Or.inr ⟨_, rfl⟩) ?_
              refine g_iconst hC dX9_length_36 (v := nI 2) (by decide) ?_
              refine g_Vx (As := [.int (nI 2)]) (st := []) hC 1 dX9_length_37 rfl (hx0.M hM).1 (hx0.M hM).2 gX9_length_X9_failed rfl (by decide +kernel) ⟨Nat.le_of_ble_eq_true rfl, Nat.le_of_ble_eq_true rfl⟩ rfl (Nat.le_of_ble_eq_true rfl) ⟨(Nat.le_of_ble_eq_true rfl), (Nat.le_of_ble_eq_true rfl)⟩ (c2 := 0) (s2 := 0) rfl rfl (x_failed hx0 M hM 2) (fun v1 L1 f1 hp1 => ?_)
              obtain ⟨rfl, hx1⟩ := hp1
              show gW X vwCl 4 L1 f1 0 0 40 [(0, .ref M), (1, .int (nI pj)), (2, .int (nI 3))] [.int (fA 2)]
              have hc_p : castF S pj 3 = 2 := by unfold castF isO; rw [hk_p] <;> decide
              have hE : s_length S (nI pj) (nI 3) = (fA 2, (aSc (thS S) 1 2)) := by
                unfold s_length
                rw [if_pos h4, if_pos hR_t, hpl_p, hpl_t, hc_p, if_pos (show 0 < 2 by decide)] <;> rfl
              exact g_iret hC hR dX9_length_40 ⟨b, congrArg (fun z => some (Value.int (Prod.fst z))) hE.symm, by rw [hE]; exact hx1, xG.rf⟩
      · refine g_bipush hC dX9_length_19 (v := (-2)) (by decide) ?_
        have hE : s_length S (nI pj) t = ((-2), (thS S)) := by
          unfold s_length
          rw [if_pos h4, if_neg (show ¬ (nI 1 ≤ t ∧ t ≤ nI 3) by
            have e1 : (nI 1).toInt = 1 := rfl
            have e2 : (nI 3).toInt = 3 := rfl
            intro z
            simp only [Int32.lt_iff_toInt_lt, Int32.le_iff_toInt_le, Int32.toInt_zero] at h16 z
            omega)] <;> rfl
        exact g_iret hC hR dX9_length_21 ⟨b, congrArg (fun z => some (Value.int (Prod.fst z))) hE.symm, by rw [hE]; exact hx0, xG.rf⟩
  · refine g_iconst hC dX9_length_7 (v := (-1)) (by decide) ?_
    have hE : s_length S p t = ((-1), (thS S)) := by
      unfold s_length
      rw [if_neg h4] <;> rfl
    exact g_iret hC hR dX9_length_8 ⟨b, congrArg (fun z => some (Value.int (Prod.fst z))) hE.symm, by rw [hE]; exact hx0, xG.rf⟩
set_option maxRecDepth 20000 in
set_option maxHeartbeats 4000000 in
theorem y_held {S : aS} {b : xB} (hx : xR cy S b L f) (hI : aI S) (M : Nat) (hM : b.1 9 0 = M) (p w : Int32) : gCt l D vwCl (gKK D cy adK adV) yX9_held wsX9_held { frames := 3, cells := 0, slots := 0, locals := 62 } [.ref M, .int p, .int w] L f (xP cy S b (s_held S p w).2 (fun _ => some (.int (s_held S p w).1))) := by
  refine gCt.of gKK_ok (by decide) rfl rfl (fun X hC hR hnm => ?_)
  have hC : gC X l _ D vwCl (cyT cy) (gKK D cy adK adV) cX9_held 3 wsX9_held RX9 := hC
  have hx0 := hx.th0
  have hI0 := hI.th
  show gW X vwCl 3 L f 0 0 0 [(0, .ref M), (1, .int p), (2, .int w)] []
  refine g_iload_n hC dX9_held_0 rfl 1 rfl ?_
  refine g_S (As := [.int p]) (st := []) hC 1 dX9_held_1 gX9_held_X9_isPlace rfl (by decide +kernel) ⟨Nat.le_of_ble_eq_true rfl, Nat.le_of_ble_eq_true rfl⟩ rfl (Nat.le_of_ble_eq_true rfl) ⟨Nat.le_of_ble_eq_true rfl, Nat.le_of_ble_eq_true rfl⟩ (c2 := 0) (s2 := 0) rfl rfl (x_isPlace _) ?_
  refine g_ifB_ne (P := isP p) (tgt := 9) hC dX9_held_4 (by decide) (fun h4 => ?_) (fun h4 => ?_)
  · obtain ⟨pj, hpj, rfl⟩ := isP_j h4
    have hpl_p : pl (nI pj) = pj := nI_clamp (by omega)
    refine g_iload_n hC dX9_held_9 rfl 2 rfl ?_
    refine g_if_lt (x := w) (tgt := 18) hC dX9_held_10 (by decide) (fun h10 => ?_) (fun h10 => ?_)
    · refine g_bipush hC dX9_held_18 (v := (-2)) (by decide) ?_
      have hE : s_held S (nI pj) w = ((-2), (thS S)) := by
        unfold s_held
        rw [if_pos h4, if_neg (show ¬ (nI 0 ≤ w ∧ w ≤ nI 5) by
          have e1 : (nI 0).toInt = 0 := rfl
          have e2 : (nI 5).toInt = 5 := rfl
          intro z
          simp only [Int32.lt_iff_toInt_lt, Int32.le_iff_toInt_le, Int32.toInt_zero] at h10 z
          omega)] <;> rfl
      exact g_iret hC hR dX9_held_20 ⟨b, congrArg (fun z => some (Value.int (Prod.fst z))) hE.symm, by rw [hE]; exact hx0, xG.rf⟩
    · refine g_iload_n hC dX9_held_13 rfl 2 rfl ?_
      refine g_iconst hC dX9_held_14 (v := nI 5) (by decide) ?_
      refine g_icmp_le (x := w) (y := nI 5) (tgt := 21) hC dX9_held_15 (by decide) (fun h15 => ?_) (fun h15 => ?_)
      · have hR_w : nI 0 ≤ w ∧ w ≤ nI 5 := by
          have e1 : (nI 0).toInt = 0 := rfl
          have e2 : (nI 5).toInt = 5 := rfl
          rw [Int32.le_iff_toInt_le, Int32.le_iff_toInt_le]
          simp only [Int32.lt_iff_toInt_lt, Int32.le_iff_toInt_le, Int32.toInt_zero] at h10 h15
          omega
        obtain ⟨wj, hw1, hw2, rfl⟩ := ty_j (lo := 0) (hi := 5) (by decide) hR_w (by decide)
        rcases (show wj = 0 ∨ wj = 1 ∨ wj = 2 ∨ wj = 3 ∨ wj = 4 ∨ wj = 5 by omega) with rfl | rfl | rfl | rfl | rfl | rfl
        · have hpl_w : pl (nI 0) = 0 := by decide
          refine g_iload_n hC dX9_held_21 rfl 2 rfl ?_
          refine g_ifN_ne (a := 0) (tgt := 35) hC dX9_held_22 (by decide) (by omega) (fun h22 => ?_) (fun h22 => ?_)
          · exfalso; omega
          · refine g_aload_n hC dX9_held_25 rfl 0 rfl (Or.inr ⟨_, rfl⟩) ?_
            refine g_get hC (by decide +kernel) rfl (hx0.M hM).1 (hx0.M hM).2 0 (by decide) (by decide +kernel) (Or.inl rfl) rfl dX9_held_26 ?_
            refine g_iload_n hC dX9_held_29 rfl 1 rfl ?_
            have h5_p := hI.k5 hpj
            rcases (show kd S pj = 0 ∨ kd S pj = 1 ∨ kd S pj = 2 ∨ kd S pj = 3 ∨ kd S pj = 4 ∨ kd S pj = 5 by omega) with hk_p | hk_p | hk_p | hk_p | hk_p | hk_p
            · have hp0_p : plcF (thS S) b pj = none := plc_0 hpj hk_p
              refine g_aald hC 5 rfl (hx0.Mp rfl).1 (hx0.Mp rfl).2 (pj) rfl (show pj < 10 by omega) (by decide) dX9_held_30 ?_
              refine g_val (w := .null) (congrArg va_rf hp0_p) ?_
              refine g_S (As := [.null]) (st := []) hC 1 dX9_held_31 gX9_held_X9_kindOf rfl (by decide +kernel) ⟨Nat.le_of_ble_eq_true rfl, Nat.le_of_ble_eq_true rfl⟩ rfl (Nat.le_of_ble_eq_true rfl) ⟨Nat.le_of_ble_eq_true rfl, Nat.le_of_ble_eq_true rfl⟩ (c2 := 0) (s2 := 0) rfl rfl (x_kindOf none 0 (Or.inl ⟨rfl, rfl⟩)) ?_
              have hE : s_held S (nI pj) (nI 0) = (nI 0, (thS S)) := by
                unfold s_held
                rw [if_pos h4, if_pos hR_w, if_pos (show nI 0 = 0 from rfl), hpl_p, hk_p] <;> rfl
              exact g_iret hC hR dX9_held_34 ⟨b, congrArg (fun z => some (Value.int (Prod.fst z))) hE.symm, by rw [hE]; exact hx0, xG.rf⟩
            · have hw_p : wh S pj < S.1 4 := hI.wl hpj hk_p
              have hp0_p : plcF (thS S) b pj = some (b.1 0 (wh S pj)) := plc_k hpj hk_p (by decide)
              refine g_aald hC 5 rfl (hx0.Mp rfl).1 (hx0.Mp rfl).2 (pj) rfl (show pj < 10 by omega) (by decide) dX9_held_30 ?_
              refine g_val (w := .ref (b.1 0 (wh S pj))) (congrArg va_rf hp0_p) ?_
              refine g_S (As := [.ref (b.1 0 (wh S pj))]) (st := []) hC 1 dX9_held_31 gX9_held_X9_kindOf rfl (by decide +kernel) ⟨Nat.le_of_ble_eq_true rfl, Nat.le_of_ble_eq_true rfl⟩ rfl (Nat.le_of_ble_eq_true rfl) ⟨Nat.le_of_ble_eq_true rfl, Nat.le_of_ble_eq_true rfl⟩ (c2 := 0) (s2 := 0) rfl rfl (x_kindOf (some (b.1 0 (wh S pj))) 1 (Or.inr ⟨_, 0, _, rfl, (hx0.B hw_p rfl), Or.inl ⟨rfl, rfl⟩⟩)) ?_
              have hE : s_held S (nI pj) (nI 0) = (nI 1, (thS S)) := by
                unfold s_held
                rw [if_pos h4, if_pos hR_w, if_pos (show nI 0 = 0 from rfl), hpl_p, hk_p] <;> rfl
              exact g_iret hC hR dX9_held_34 ⟨b, congrArg (fun z => some (Value.int (Prod.fst z))) hE.symm, by rw [hE]; exact hx0, xG.rf⟩
            · have hw_p : wh S pj < S.1 7 := hI.ws hpj hk_p
              have hp0_p : plcF (thS S) b pj = some (b.1 2 (wh S pj)) := plc_k hpj hk_p (by decide)
              refine g_aald hC 5 rfl (hx0.Mp rfl).1 (hx0.Mp rfl).2 (pj) rfl (show pj < 10 by omega) (by decide) dX9_held_30 ?_
              refine g_val (w := .ref (b.1 2 (wh S pj))) (congrArg va_rf hp0_p) ?_
              refine g_S (As := [.ref (b.1 2 (wh S pj))]) (st := []) hC 1 dX9_held_31 gX9_held_X9_kindOf rfl (by decide +kernel) ⟨Nat.le_of_ble_eq_true rfl, Nat.le_of_ble_eq_true rfl⟩ rfl (Nat.le_of_ble_eq_true rfl) ⟨Nat.le_of_ble_eq_true rfl, Nat.le_of_ble_eq_true rfl⟩ (c2 := 0) (s2 := 0) rfl rfl (x_kindOf (some (b.1 2 (wh S pj))) 2 (Or.inr ⟨_, 4, _, rfl, (hx0.G hw_p rfl), Or.inr (Or.inl ⟨rfl, rfl⟩)⟩)) ?_
              have hE : s_held S (nI pj) (nI 0) = (nI 2, (thS S)) := by
                unfold s_held
                rw [if_pos h4, if_pos hR_w, if_pos (show nI 0 = 0 from rfl), hpl_p, hk_p] <;> rfl
              exact g_iret hC hR dX9_held_34 ⟨b, congrArg (fun z => some (Value.int (Prod.fst z))) hE.symm, by rw [hE]; exact hx0, xG.rf⟩
            · have hw_p : wh S pj < S.1 10 := hI.wr hpj hk_p
              have hp0_p : plcF (thS S) b pj = some (b.1 4 (wh S pj)) := plc_k hpj hk_p (by decide)
              refine g_aald hC 5 rfl (hx0.Mp rfl).1 (hx0.Mp rfl).2 (pj) rfl (show pj < 10 by omega) (by decide) dX9_held_30 ?_
              refine g_val (w := .ref (b.1 4 (wh S pj))) (congrArg va_rf hp0_p) ?_
              refine g_S (As := [.ref (b.1 4 (wh S pj))]) (st := []) hC 1 dX9_held_31 gX9_held_X9_kindOf rfl (by decide +kernel) ⟨Nat.le_of_ble_eq_true rfl, Nat.le_of_ble_eq_true rfl⟩ rfl (Nat.le_of_ble_eq_true rfl) ⟨Nat.le_of_ble_eq_true rfl, Nat.le_of_ble_eq_true rfl⟩ (c2 := 0) (s2 := 0) rfl rfl (x_kindOf (some (b.1 4 (wh S pj))) 3 (Or.inr ⟨_, 3, _, rfl, (hx0.W hw_p rfl), Or.inr (Or.inr (Or.inl ⟨rfl, rfl⟩))⟩)) ?_
              have hE : s_held S (nI pj) (nI 0) = (nI 3, (thS S)) := by
                unfold s_held
                rw [if_pos h4, if_pos hR_w, if_pos (show nI 0 = 0 from rfl), hpl_p, hk_p] <;> rfl
              exact g_iret hC hR dX9_held_34 ⟨b, congrArg (fun z => some (Value.int (Prod.fst z))) hE.symm, by rw [hE]; exact hx0, xG.rf⟩
            · have hw_p : wh S pj < S.1 13 := hI.wt hpj (by omega)
              have hb_p : S.2.1 14 (wh S pj) = 0 := by have := ((hI.2.1 _ hpj).2.2.2.2.2 (by omega)).2; omega
              have hp0_p : plcF (thS S) b pj = some (b.1 6 (wh S pj)) := plc_k hpj hk_p (by decide)
              refine g_aald hC 5 rfl (hx0.Mp rfl).1 (hx0.Mp rfl).2 (pj) rfl (show pj < 10 by omega) (by decide) dX9_held_30 ?_
              refine g_val (w := .ref (b.1 6 (wh S pj))) (congrArg va_rf hp0_p) ?_
              refine g_S (As := [.ref (b.1 6 (wh S pj))]) (st := []) hC 1 dX9_held_31 gX9_held_X9_kindOf rfl (by decide +kernel) ⟨Nat.le_of_ble_eq_true rfl, Nat.le_of_ble_eq_true rfl⟩ rfl (Nat.le_of_ble_eq_true rfl) ⟨Nat.le_of_ble_eq_true rfl, Nat.le_of_ble_eq_true rfl⟩ (c2 := 0) (s2 := 0) rfl rfl (x_kindOf (some (b.1 6 (wh S pj))) 4 (Or.inr ⟨_, 5, _, rfl, (hx0.T hw_p rfl hb_p), Or.inr (Or.inr (Or.inr (Or.inl ⟨rfl, rfl⟩)))⟩)) ?_
              have hE : s_held S (nI pj) (nI 0) = (nI 4, (thS S)) := by
                unfold s_held
                rw [if_pos h4, if_pos hR_w, if_pos (show nI 0 = 0 from rfl), hpl_p, hk_p] <;> rfl
              exact g_iret hC hR dX9_held_34 ⟨b, congrArg (fun z => some (Value.int (Prod.fst z))) hE.symm, by rw [hE]; exact hx0, xG.rf⟩
            · have hw_p : wh S pj < S.1 13 := hI.wt hpj (by omega)
              have hb_p : S.2.1 14 (wh S pj) ≠ 0 := by have := ((hI.2.1 _ hpj).2.2.2.2.2 (by omega)).2; omega
              have hp0_p : plcF (thS S) b pj = some (b.1 6 (wh S pj)) := plc_k hpj hk_p (by decide)
              refine g_aald hC 5 rfl (hx0.Mp rfl).1 (hx0.Mp rfl).2 (pj) rfl (show pj < 10 by omega) (by decide) dX9_held_30 ?_
              refine g_val (w := .ref (b.1 6 (wh S pj))) (congrArg va_rf hp0_p) ?_
              refine g_S (As := [.ref (b.1 6 (wh S pj))]) (st := []) hC 1 dX9_held_31 gX9_held_X9_kindOf rfl (by decide +kernel) ⟨Nat.le_of_ble_eq_true rfl, Nat.le_of_ble_eq_true rfl⟩ rfl (Nat.le_of_ble_eq_true rfl) ⟨Nat.le_of_ble_eq_true rfl, Nat.le_of_ble_eq_true rfl⟩ (c2 := 0) (s2 := 0) rfl rfl (x_kindOf (some (b.1 6 (wh S pj))) 5 (Or.inr ⟨_, 1, _, rfl, (hx0.K hw_p rfl hb_p), Or.inr (Or.inr (Or.inr (Or.inr ⟨rfl, rfl⟩)))⟩)) ?_
              have hE : s_held S (nI pj) (nI 0) = (nI 5, (thS S)) := by
                unfold s_held
                rw [if_pos h4, if_pos hR_w, if_pos (show nI 0 = 0 from rfl), hpl_p, hk_p] <;> rfl
              exact g_iret hC hR dX9_held_34 ⟨b, congrArg (fun z => some (Value.int (Prod.fst z))) hE.symm, by rw [hE]; exact hx0, xG.rf⟩
        · have hpl_w : pl (nI 1) = 1 := by decide
          refine g_iload_n hC dX9_held_21 rfl 2 rfl ?_
          refine g_ifN_ne (a := 1) (tgt := 35) hC dX9_held_22 (by decide) (by omega) (fun h22 => ?_) (fun h22 => ?_)
          · refine g_aload_n hC dX9_held_35 rfl 0 rfl (Or.inr ⟨_, rfl⟩) ?_
            refine g_get hC (by decide +kernel) rfl (hx0.M hM).1 (hx0.M hM).2 0 (by decide) (by decide +kernel) (Or.inl rfl) rfl dX9_held_36 ?_
            refine g_iload_n hC dX9_held_39 rfl 1 rfl ?_
            have h5_p := hI.k5 hpj
            rcases (show kd S pj = 0 ∨ kd S pj = 1 ∨ kd S pj = 2 ∨ kd S pj = 3 ∨ kd S pj = 4 ∨ kd S pj = 5 by omega) with hk_p | hk_p | hk_p | hk_p | hk_p | hk_p
            · have hp0_p : plcF (thS S) b pj = none := plc_0 hpj hk_p
              refine g_aald hC 5 rfl (hx0.Mp rfl).1 (hx0.Mp rfl).2 (pj) rfl (show pj < 10 by omega) (by decide) dX9_held_40 ?_
              refine g_val (w := .null) (congrArg va_rf hp0_p) ?_
              refine g_iload_n hC dX9_held_41 rfl 2 rfl ?_
              refine g_S (As := [.null, .int (nI 1)]) (st := []) hC 2 dX9_held_42 gX9_held_X9_isOfType rfl (by decide +kernel) ⟨Nat.le_of_ble_eq_true rfl, Nat.le_of_ble_eq_true rfl⟩ rfl (Nat.le_of_ble_eq_true rfl) ⟨Nat.le_of_ble_eq_true rfl, Nat.le_of_ble_eq_true rfl⟩ (c2 := 0) (s2 := 0) rfl rfl (x_isOfType none 0 (Or.inl ⟨rfl, rfl⟩) 1 (by decide) (by decide)) ?_
              refine g_ifN_eq (a := 0) (tgt := 52) hC dX9_held_45 (by decide) (by omega) (fun h45 => ?_) (fun h45 => ?_)
              · refine g_iconst hC dX9_held_52 (v := nI 0) (by decide) ?_
                have ho_p : ¬ isO S pj 1 := by unfold isO; rw [hk_p] <;> decide
                have hE : s_held S (nI pj) (nI 1) = (nI 0, (thS S)) := by
                  unfold s_held
                  rw [if_pos h4, if_pos hR_w, if_neg (show ¬ (nI 1 = 0) by decide), hpl_p, hpl_w, bI_f ho_p] <;> rfl
                exact g_iret hC hR dX9_held_53 ⟨b, congrArg (fun z => some (Value.int (Prod.fst z))) hE.symm, by rw [hE]; exact hx0, xG.rf⟩
              · exfalso; omega
            · have hw_p : wh S pj < S.1 4 := hI.wl hpj hk_p
              have hp0_p : plcF (thS S) b pj = some (b.1 0 (wh S pj)) := plc_k hpj hk_p (by decide)
              refine g_aald hC 5 rfl (hx0.Mp rfl).1 (hx0.Mp rfl).2 (pj) rfl (show pj < 10 by omega) (by decide) dX9_held_40 ?_
              refine g_val (w := .ref (b.1 0 (wh S pj))) (congrArg va_rf hp0_p) ?_
              refine g_iload_n hC dX9_held_41 rfl 2 rfl ?_
              refine g_S (As := [.ref (b.1 0 (wh S pj)), .int (nI 1)]) (st := []) hC 2 dX9_held_42 gX9_held_X9_isOfType rfl (by decide +kernel) ⟨Nat.le_of_ble_eq_true rfl, Nat.le_of_ble_eq_true rfl⟩ rfl (Nat.le_of_ble_eq_true rfl) ⟨Nat.le_of_ble_eq_true rfl, Nat.le_of_ble_eq_true rfl⟩ (c2 := 0) (s2 := 0) rfl rfl (x_isOfType (some (b.1 0 (wh S pj))) 1 (Or.inr ⟨_, 0, _, rfl, (hx0.B hw_p rfl), Or.inl ⟨rfl, rfl⟩⟩) 1 (by decide) (by decide)) ?_
              refine g_ifN_eq (a := 1) (tgt := 52) hC dX9_held_45 (by decide) (by omega) (fun h45 => ?_) (fun h45 => ?_)
              · exfalso; omega
              · refine g_iconst hC dX9_held_48 (v := nI 1) (by decide) ?_
                refine g_goto (tgt := 53) hC dX9_held_49 (by decide) ?_
                have ho_p : isO S pj 1 := by unfold isO; rw [hk_p] <;> decide
                have hE : s_held S (nI pj) (nI 1) = (nI 1, (thS S)) := by
                  unfold s_held
                  rw [if_pos h4, if_pos hR_w, if_neg (show ¬ (nI 1 = 0) by decide), hpl_p, hpl_w, bI_t ho_p] <;> rfl
                exact g_iret hC hR dX9_held_53 ⟨b, congrArg (fun z => some (Value.int (Prod.fst z))) hE.symm, by rw [hE]; exact hx0, xG.rf⟩
            · have hw_p : wh S pj < S.1 7 := hI.ws hpj hk_p
              have hp0_p : plcF (thS S) b pj = some (b.1 2 (wh S pj)) := plc_k hpj hk_p (by decide)
              refine g_aald hC 5 rfl (hx0.Mp rfl).1 (hx0.Mp rfl).2 (pj) rfl (show pj < 10 by omega) (by decide) dX9_held_40 ?_
              refine g_val (w := .ref (b.1 2 (wh S pj))) (congrArg va_rf hp0_p) ?_
              refine g_iload_n hC dX9_held_41 rfl 2 rfl ?_
              refine g_S (As := [.ref (b.1 2 (wh S pj)), .int (nI 1)]) (st := []) hC 2 dX9_held_42 gX9_held_X9_isOfType rfl (by decide +kernel) ⟨Nat.le_of_ble_eq_true rfl, Nat.le_of_ble_eq_true rfl⟩ rfl (Nat.le_of_ble_eq_true rfl) ⟨Nat.le_of_ble_eq_true rfl, Nat.le_of_ble_eq_true rfl⟩ (c2 := 0) (s2 := 0) rfl rfl (x_isOfType (some (b.1 2 (wh S pj))) 2 (Or.inr ⟨_, 4, _, rfl, (hx0.G hw_p rfl), Or.inr (Or.inl ⟨rfl, rfl⟩)⟩) 1 (by decide) (by decide)) ?_
              refine g_ifN_eq (a := 0) (tgt := 52) hC dX9_held_45 (by decide) (by omega) (fun h45 => ?_) (fun h45 => ?_)
              · refine g_iconst hC dX9_held_52 (v := nI 0) (by decide) ?_
                have ho_p : ¬ isO S pj 1 := by unfold isO; rw [hk_p] <;> decide
                have hE : s_held S (nI pj) (nI 1) = (nI 0, (thS S)) := by
                  unfold s_held
                  rw [if_pos h4, if_pos hR_w, if_neg (show ¬ (nI 1 = 0) by decide), hpl_p, hpl_w, bI_f ho_p] <;> rfl
                exact g_iret hC hR dX9_held_53 ⟨b, congrArg (fun z => some (Value.int (Prod.fst z))) hE.symm, by rw [hE]; exact hx0, xG.rf⟩
              · exfalso; omega
            · have hw_p : wh S pj < S.1 10 := hI.wr hpj hk_p
              have hp0_p : plcF (thS S) b pj = some (b.1 4 (wh S pj)) := plc_k hpj hk_p (by decide)
              refine g_aald hC 5 rfl (hx0.Mp rfl).1 (hx0.Mp rfl).2 (pj) rfl (show pj < 10 by omega) (by decide) dX9_held_40 ?_
              refine g_val (w := .ref (b.1 4 (wh S pj))) (congrArg va_rf hp0_p) ?_
              refine g_iload_n hC dX9_held_41 rfl 2 rfl ?_
              refine g_S (As := [.ref (b.1 4 (wh S pj)), .int (nI 1)]) (st := []) hC 2 dX9_held_42 gX9_held_X9_isOfType rfl (by decide +kernel) ⟨Nat.le_of_ble_eq_true rfl, Nat.le_of_ble_eq_true rfl⟩ rfl (Nat.le_of_ble_eq_true rfl) ⟨Nat.le_of_ble_eq_true rfl, Nat.le_of_ble_eq_true rfl⟩ (c2 := 0) (s2 := 0) rfl rfl (x_isOfType (some (b.1 4 (wh S pj))) 3 (Or.inr ⟨_, 3, _, rfl, (hx0.W hw_p rfl), Or.inr (Or.inr (Or.inl ⟨rfl, rfl⟩))⟩) 1 (by decide) (by decide)) ?_
              refine g_ifN_eq (a := 0) (tgt := 52) hC dX9_held_45 (by decide) (by omega) (fun h45 => ?_) (fun h45 => ?_)
              · refine g_iconst hC dX9_held_52 (v := nI 0) (by decide) ?_
                have ho_p : ¬ isO S pj 1 := by unfold isO; rw [hk_p] <;> decide
                have hE : s_held S (nI pj) (nI 1) = (nI 0, (thS S)) := by
                  unfold s_held
                  rw [if_pos h4, if_pos hR_w, if_neg (show ¬ (nI 1 = 0) by decide), hpl_p, hpl_w, bI_f ho_p] <;> rfl
                exact g_iret hC hR dX9_held_53 ⟨b, congrArg (fun z => some (Value.int (Prod.fst z))) hE.symm, by rw [hE]; exact hx0, xG.rf⟩
              · exfalso; omega
            · have hw_p : wh S pj < S.1 13 := hI.wt hpj (by omega)
              have hb_p : S.2.1 14 (wh S pj) = 0 := by have := ((hI.2.1 _ hpj).2.2.2.2.2 (by omega)).2; omega
              have hp0_p : plcF (thS S) b pj = some (b.1 6 (wh S pj)) := plc_k hpj hk_p (by decide)
              refine g_aald hC 5 rfl (hx0.Mp rfl).1 (hx0.Mp rfl).2 (pj) rfl (show pj < 10 by omega) (by decide) dX9_held_40 ?_
              refine g_val (w := .ref (b.1 6 (wh S pj))) (congrArg va_rf hp0_p) ?_
              refine g_iload_n hC dX9_held_41 rfl 2 rfl ?_
              refine g_S (As := [.ref (b.1 6 (wh S pj)), .int (nI 1)]) (st := []) hC 2 dX9_held_42 gX9_held_X9_isOfType rfl (by decide +kernel) ⟨Nat.le_of_ble_eq_true rfl, Nat.le_of_ble_eq_true rfl⟩ rfl (Nat.le_of_ble_eq_true rfl) ⟨Nat.le_of_ble_eq_true rfl, Nat.le_of_ble_eq_true rfl⟩ (c2 := 0) (s2 := 0) rfl rfl (x_isOfType (some (b.1 6 (wh S pj))) 4 (Or.inr ⟨_, 5, _, rfl, (hx0.T hw_p rfl hb_p), Or.inr (Or.inr (Or.inr (Or.inl ⟨rfl, rfl⟩)))⟩) 1 (by decide) (by decide)) ?_
              refine g_ifN_eq (a := 0) (tgt := 52) hC dX9_held_45 (by decide) (by omega) (fun h45 => ?_) (fun h45 => ?_)
              · refine g_iconst hC dX9_held_52 (v := nI 0) (by decide) ?_
                have ho_p : ¬ isO S pj 1 := by unfold isO; rw [hk_p] <;> decide
                have hE : s_held S (nI pj) (nI 1) = (nI 0, (thS S)) := by
                  unfold s_held
                  rw [if_pos h4, if_pos hR_w, if_neg (show ¬ (nI 1 = 0) by decide), hpl_p, hpl_w, bI_f ho_p] <;> rfl
                exact g_iret hC hR dX9_held_53 ⟨b, congrArg (fun z => some (Value.int (Prod.fst z))) hE.symm, by rw [hE]; exact hx0, xG.rf⟩
              · exfalso; omega
            · have hw_p : wh S pj < S.1 13 := hI.wt hpj (by omega)
              have hb_p : S.2.1 14 (wh S pj) ≠ 0 := by have := ((hI.2.1 _ hpj).2.2.2.2.2 (by omega)).2; omega
              have hp0_p : plcF (thS S) b pj = some (b.1 6 (wh S pj)) := plc_k hpj hk_p (by decide)
              refine g_aald hC 5 rfl (hx0.Mp rfl).1 (hx0.Mp rfl).2 (pj) rfl (show pj < 10 by omega) (by decide) dX9_held_40 ?_
              refine g_val (w := .ref (b.1 6 (wh S pj))) (congrArg va_rf hp0_p) ?_
              refine g_iload_n hC dX9_held_41 rfl 2 rfl ?_
              refine g_S (As := [.ref (b.1 6 (wh S pj)), .int (nI 1)]) (st := []) hC 2 dX9_held_42 gX9_held_X9_isOfType rfl (by decide +kernel) ⟨Nat.le_of_ble_eq_true rfl, Nat.le_of_ble_eq_true rfl⟩ rfl (Nat.le_of_ble_eq_true rfl) ⟨Nat.le_of_ble_eq_true rfl, Nat.le_of_ble_eq_true rfl⟩ (c2 := 0) (s2 := 0) rfl rfl (x_isOfType (some (b.1 6 (wh S pj))) 5 (Or.inr ⟨_, 1, _, rfl, (hx0.K hw_p rfl hb_p), Or.inr (Or.inr (Or.inr (Or.inr ⟨rfl, rfl⟩)))⟩) 1 (by decide) (by decide)) ?_
              refine g_ifN_eq (a := 0) (tgt := 52) hC dX9_held_45 (by decide) (by omega) (fun h45 => ?_) (fun h45 => ?_)
              · refine g_iconst hC dX9_held_52 (v := nI 0) (by decide) ?_
                have ho_p : ¬ isO S pj 1 := by unfold isO; rw [hk_p] <;> decide
                have hE : s_held S (nI pj) (nI 1) = (nI 0, (thS S)) := by
                  unfold s_held
                  rw [if_pos h4, if_pos hR_w, if_neg (show ¬ (nI 1 = 0) by decide), hpl_p, hpl_w, bI_f ho_p] <;> rfl
                exact g_iret hC hR dX9_held_53 ⟨b, congrArg (fun z => some (Value.int (Prod.fst z))) hE.symm, by rw [hE]; exact hx0, xG.rf⟩
              · exfalso; omega
          · exfalso; omega
        · have hpl_w : pl (nI 2) = 2 := by decide
          refine g_iload_n hC dX9_held_21 rfl 2 rfl ?_
          refine g_ifN_ne (a := 2) (tgt := 35) hC dX9_held_22 (by decide) (by omega) (fun h22 => ?_) (fun h22 => ?_)
          · refine g_aload_n hC dX9_held_35 rfl 0 rfl (Or.inr ⟨_, rfl⟩) ?_
            refine g_get hC (by decide +kernel) rfl (hx0.M hM).1 (hx0.M hM).2 0 (by decide) (by decide +kernel) (Or.inl rfl) rfl dX9_held_36 ?_
            refine g_iload_n hC dX9_held_39 rfl 1 rfl ?_
            have h5_p := hI.k5 hpj
            rcases (show kd S pj = 0 ∨ kd S pj = 1 ∨ kd S pj = 2 ∨ kd S pj = 3 ∨ kd S pj = 4 ∨ kd S pj = 5 by omega) with hk_p | hk_p | hk_p | hk_p | hk_p | hk_p
            · have hp0_p : plcF (thS S) b pj = none := plc_0 hpj hk_p
              refine g_aald hC 5 rfl (hx0.Mp rfl).1 (hx0.Mp rfl).2 (pj) rfl (show pj < 10 by omega) (by decide) dX9_held_40 ?_
              refine g_val (w := .null) (congrArg va_rf hp0_p) ?_
              refine g_iload_n hC dX9_held_41 rfl 2 rfl ?_
              refine g_S (As := [.null, .int (nI 2)]) (st := []) hC 2 dX9_held_42 gX9_held_X9_isOfType rfl (by decide +kernel) ⟨Nat.le_of_ble_eq_true rfl, Nat.le_of_ble_eq_true rfl⟩ rfl (Nat.le_of_ble_eq_true rfl) ⟨Nat.le_of_ble_eq_true rfl, Nat.le_of_ble_eq_true rfl⟩ (c2 := 0) (s2 := 0) rfl rfl (x_isOfType none 0 (Or.inl ⟨rfl, rfl⟩) 2 (by decide) (by decide)) ?_
              refine g_ifN_eq (a := 0) (tgt := 52) hC dX9_held_45 (by decide) (by omega) (fun h45 => ?_) (fun h45 => ?_)
              · refine g_iconst hC dX9_held_52 (v := nI 0) (by decide) ?_
                have ho_p : ¬ isO S pj 2 := by unfold isO; rw [hk_p] <;> decide
                have hE : s_held S (nI pj) (nI 2) = (nI 0, (thS S)) := by
                  unfold s_held
                  rw [if_pos h4, if_pos hR_w, if_neg (show ¬ (nI 2 = 0) by decide), hpl_p, hpl_w, bI_f ho_p] <;> rfl
                exact g_iret hC hR dX9_held_53 ⟨b, congrArg (fun z => some (Value.int (Prod.fst z))) hE.symm, by rw [hE]; exact hx0, xG.rf⟩
              · exfalso; omega
            · have hw_p : wh S pj < S.1 4 := hI.wl hpj hk_p
              have hp0_p : plcF (thS S) b pj = some (b.1 0 (wh S pj)) := plc_k hpj hk_p (by decide)
              refine g_aald hC 5 rfl (hx0.Mp rfl).1 (hx0.Mp rfl).2 (pj) rfl (show pj < 10 by omega) (by decide) dX9_held_40 ?_
              refine g_val (w := .ref (b.1 0 (wh S pj))) (congrArg va_rf hp0_p) ?_
              refine g_iload_n hC dX9_held_41 rfl 2 rfl ?_
              refine g_S (As := [.ref (b.1 0 (wh S pj)), .int (nI 2)]) (st := []) hC 2 dX9_held_42 gX9_held_X9_isOfType rfl (by decide +kernel) ⟨Nat.le_of_ble_eq_true rfl, Nat.le_of_ble_eq_true rfl⟩ rfl (Nat.le_of_ble_eq_true rfl) ⟨Nat.le_of_ble_eq_true rfl, Nat.le_of_ble_eq_true rfl⟩ (c2 := 0) (s2 := 0) rfl rfl (x_isOfType (some (b.1 0 (wh S pj))) 1 (Or.inr ⟨_, 0, _, rfl, (hx0.B hw_p rfl), Or.inl ⟨rfl, rfl⟩⟩) 2 (by decide) (by decide)) ?_
              refine g_ifN_eq (a := 0) (tgt := 52) hC dX9_held_45 (by decide) (by omega) (fun h45 => ?_) (fun h45 => ?_)
              · refine g_iconst hC dX9_held_52 (v := nI 0) (by decide) ?_
                have ho_p : ¬ isO S pj 2 := by unfold isO; rw [hk_p] <;> decide
                have hE : s_held S (nI pj) (nI 2) = (nI 0, (thS S)) := by
                  unfold s_held
                  rw [if_pos h4, if_pos hR_w, if_neg (show ¬ (nI 2 = 0) by decide), hpl_p, hpl_w, bI_f ho_p] <;> rfl
                exact g_iret hC hR dX9_held_53 ⟨b, congrArg (fun z => some (Value.int (Prod.fst z))) hE.symm, by rw [hE]; exact hx0, xG.rf⟩
              · exfalso; omega
            · have hw_p : wh S pj < S.1 7 := hI.ws hpj hk_p
              have hp0_p : plcF (thS S) b pj = some (b.1 2 (wh S pj)) := plc_k hpj hk_p (by decide)
              refine g_aald hC 5 rfl (hx0.Mp rfl).1 (hx0.Mp rfl).2 (pj) rfl (show pj < 10 by omega) (by decide) dX9_held_40 ?_
              refine g_val (w := .ref (b.1 2 (wh S pj))) (congrArg va_rf hp0_p) ?_
              refine g_iload_n hC dX9_held_41 rfl 2 rfl ?_
              refine g_S (As := [.ref (b.1 2 (wh S pj)), .int (nI 2)]) (st := []) hC 2 dX9_held_42 gX9_held_X9_isOfType rfl (by decide +kernel) ⟨Nat.le_of_ble_eq_true rfl, Nat.le_of_ble_eq_true rfl⟩ rfl (Nat.le_of_ble_eq_true rfl) ⟨Nat.le_of_ble_eq_true rfl, Nat.le_of_ble_eq_true rfl⟩ (c2 := 0) (s2 := 0) rfl rfl (x_isOfType (some (b.1 2 (wh S pj))) 2 (Or.inr ⟨_, 4, _, rfl, (hx0.G hw_p rfl), Or.inr (Or.inl ⟨rfl, rfl⟩)⟩) 2 (by decide) (by decide)) ?_
              refine g_ifN_eq (a := 1) (tgt := 52) hC dX9_held_45 (by decide) (by omega) (fun h45 => ?_) (fun h45 => ?_)
              · exfalso; omega
              · refine g_iconst hC dX9_held_48 (v := nI 1) (by decide) ?_
                refine g_goto (tgt := 53) hC dX9_held_49 (by decide) ?_
                have ho_p : isO S pj 2 := by unfold isO; rw [hk_p] <;> decide
                have hE : s_held S (nI pj) (nI 2) = (nI 1, (thS S)) := by
                  unfold s_held
                  rw [if_pos h4, if_pos hR_w, if_neg (show ¬ (nI 2 = 0) by decide), hpl_p, hpl_w, bI_t ho_p] <;> rfl
                exact g_iret hC hR dX9_held_53 ⟨b, congrArg (fun z => some (Value.int (Prod.fst z))) hE.symm, by rw [hE]; exact hx0, xG.rf⟩
            · have hw_p : wh S pj < S.1 10 := hI.wr hpj hk_p
              have hp0_p : plcF (thS S) b pj = some (b.1 4 (wh S pj)) := plc_k hpj hk_p (by decide)
              refine g_aald hC 5 rfl (hx0.Mp rfl).1 (hx0.Mp rfl).2 (pj) rfl (show pj < 10 by omega) (by decide) dX9_held_40 ?_
              refine g_val (w := .ref (b.1 4 (wh S pj))) (congrArg va_rf hp0_p) ?_
              refine g_iload_n hC dX9_held_41 rfl 2 rfl ?_
              refine g_S (As := [.ref (b.1 4 (wh S pj)), .int (nI 2)]) (st := []) hC 2 dX9_held_42 gX9_held_X9_isOfType rfl (by decide +kernel) ⟨Nat.le_of_ble_eq_true rfl, Nat.le_of_ble_eq_true rfl⟩ rfl (Nat.le_of_ble_eq_true rfl) ⟨Nat.le_of_ble_eq_true rfl, Nat.le_of_ble_eq_true rfl⟩ (c2 := 0) (s2 := 0) rfl rfl (x_isOfType (some (b.1 4 (wh S pj))) 3 (Or.inr ⟨_, 3, _, rfl, (hx0.W hw_p rfl), Or.inr (Or.inr (Or.inl ⟨rfl, rfl⟩))⟩) 2 (by decide) (by decide)) ?_
              refine g_ifN_eq (a := 0) (tgt := 52) hC dX9_held_45 (by decide) (by omega) (fun h45 => ?_) (fun h45 => ?_)
              · refine g_iconst hC dX9_held_52 (v := nI 0) (by decide) ?_
                have ho_p : ¬ isO S pj 2 := by unfold isO; rw [hk_p] <;> decide
                have hE : s_held S (nI pj) (nI 2) = (nI 0, (thS S)) := by
                  unfold s_held
                  rw [if_pos h4, if_pos hR_w, if_neg (show ¬ (nI 2 = 0) by decide), hpl_p, hpl_w, bI_f ho_p] <;> rfl
                exact g_iret hC hR dX9_held_53 ⟨b, congrArg (fun z => some (Value.int (Prod.fst z))) hE.symm, by rw [hE]; exact hx0, xG.rf⟩
              · exfalso; omega
            · have hw_p : wh S pj < S.1 13 := hI.wt hpj (by omega)
              have hb_p : S.2.1 14 (wh S pj) = 0 := by have := ((hI.2.1 _ hpj).2.2.2.2.2 (by omega)).2; omega
              have hp0_p : plcF (thS S) b pj = some (b.1 6 (wh S pj)) := plc_k hpj hk_p (by decide)
              refine g_aald hC 5 rfl (hx0.Mp rfl).1 (hx0.Mp rfl).2 (pj) rfl (show pj < 10 by omega) (by decide) dX9_held_40 ?_
              refine g_val (w := .ref (b.1 6 (wh S pj))) (congrArg va_rf hp0_p) ?_
              refine g_iload_n hC dX9_held_41 rfl 2 rfl ?_
              refine g_S (As := [.ref (b.1 6 (wh S pj)), .int (nI 2)]) (st := []) hC 2 dX9_held_42 gX9_held_X9_isOfType rfl (by decide +kernel) ⟨Nat.le_of_ble_eq_true rfl, Nat.le_of_ble_eq_true rfl⟩ rfl (Nat.le_of_ble_eq_true rfl) ⟨Nat.le_of_ble_eq_true rfl, Nat.le_of_ble_eq_true rfl⟩ (c2 := 0) (s2 := 0) rfl rfl (x_isOfType (some (b.1 6 (wh S pj))) 4 (Or.inr ⟨_, 5, _, rfl, (hx0.T hw_p rfl hb_p), Or.inr (Or.inr (Or.inr (Or.inl ⟨rfl, rfl⟩)))⟩) 2 (by decide) (by decide)) ?_
              refine g_ifN_eq (a := 0) (tgt := 52) hC dX9_held_45 (by decide) (by omega) (fun h45 => ?_) (fun h45 => ?_)
              · refine g_iconst hC dX9_held_52 (v := nI 0) (by decide) ?_
                have ho_p : ¬ isO S pj 2 := by unfold isO; rw [hk_p] <;> decide
                have hE : s_held S (nI pj) (nI 2) = (nI 0, (thS S)) := by
                  unfold s_held
                  rw [if_pos h4, if_pos hR_w, if_neg (show ¬ (nI 2 = 0) by decide), hpl_p, hpl_w, bI_f ho_p] <;> rfl
                exact g_iret hC hR dX9_held_53 ⟨b, congrArg (fun z => some (Value.int (Prod.fst z))) hE.symm, by rw [hE]; exact hx0, xG.rf⟩
              · exfalso; omega
            · have hw_p : wh S pj < S.1 13 := hI.wt hpj (by omega)
              have hb_p : S.2.1 14 (wh S pj) ≠ 0 := by have := ((hI.2.1 _ hpj).2.2.2.2.2 (by omega)).2; omega
              have hp0_p : plcF (thS S) b pj = some (b.1 6 (wh S pj)) := plc_k hpj hk_p (by decide)
              refine g_aald hC 5 rfl (hx0.Mp rfl).1 (hx0.Mp rfl).2 (pj) rfl (show pj < 10 by omega) (by decide) dX9_held_40 ?_
              refine g_val (w := .ref (b.1 6 (wh S pj))) (congrArg va_rf hp0_p) ?_
              refine g_iload_n hC dX9_held_41 rfl 2 rfl ?_
              refine g_S (As := [.ref (b.1 6 (wh S pj)), .int (nI 2)]) (st := []) hC 2 dX9_held_42 gX9_held_X9_isOfType rfl (by decide +kernel) ⟨Nat.le_of_ble_eq_true rfl, Nat.le_of_ble_eq_true rfl⟩ rfl (Nat.le_of_ble_eq_true rfl) ⟨Nat.le_of_ble_eq_true rfl, Nat.le_of_ble_eq_true rfl⟩ (c2 := 0) (s2 := 0) rfl rfl (x_isOfType (some (b.1 6 (wh S pj))) 5 (Or.inr ⟨_, 1, _, rfl, (hx0.K hw_p rfl hb_p), Or.inr (Or.inr (Or.inr (Or.inr ⟨rfl, rfl⟩)))⟩) 2 (by decide) (by decide)) ?_
              refine g_ifN_eq (a := 0) (tgt := 52) hC dX9_held_45 (by decide) (by omega) (fun h45 => ?_) (fun h45 => ?_)
              · refine g_iconst hC dX9_held_52 (v := nI 0) (by decide) ?_
                have ho_p : ¬ isO S pj 2 := by unfold isO; rw [hk_p] <;> decide
                have hE : s_held S (nI pj) (nI 2) = (nI 0, (thS S)) := by
                  unfold s_held
                  rw [if_pos h4, if_pos hR_w, if_neg (show ¬ (nI 2 = 0) by decide), hpl_p, hpl_w, bI_f ho_p] <;> rfl
                exact g_iret hC hR dX9_held_53 ⟨b, congrArg (fun z => some (Value.int (Prod.fst z))) hE.symm, by rw [hE]; exact hx0, xG.rf⟩
              · exfalso; omega
          · exfalso; omega
        · have hpl_w : pl (nI 3) = 3 := by decide
          refine g_iload_n hC dX9_held_21 rfl 2 rfl ?_
          refine g_ifN_ne (a := 3) (tgt := 35) hC dX9_held_22 (by decide) (by omega) (fun h22 => ?_) (fun h22 => ?_)
          · refine g_aload_n hC dX9_held_35 rfl 0 rfl (Or.inr ⟨_, rfl⟩) ?_
            refine g_get hC (by decide +kernel) rfl (hx0.M hM).1 (hx0.M hM).2 0 (by decide) (by decide +kernel) (Or.inl rfl) rfl dX9_held_36 ?_
            refine g_iload_n hC dX9_held_39 rfl 1 rfl ?_
            have h5_p := hI.k5 hpj
            rcases (show kd S pj = 0 ∨ kd S pj = 1 ∨ kd S pj = 2 ∨ kd S pj = 3 ∨ kd S pj = 4 ∨ kd S pj = 5 by omega) with hk_p | hk_p | hk_p | hk_p | hk_p | hk_p
            · have hp0_p : plcF (thS S) b pj = none := plc_0 hpj hk_p
              refine g_aald hC 5 rfl (hx0.Mp rfl).1 (hx0.Mp rfl).2 (pj) rfl (show pj < 10 by omega) (by decide) dX9_held_40 ?_
              refine g_val (w := .null) (congrArg va_rf hp0_p) ?_
              refine g_iload_n hC dX9_held_41 rfl 2 rfl ?_
              refine g_S (As := [.null, .int (nI 3)]) (st := []) hC 2 dX9_held_42 gX9_held_X9_isOfType rfl (by decide +kernel) ⟨Nat.le_of_ble_eq_true rfl, Nat.le_of_ble_eq_true rfl⟩ rfl (Nat.le_of_ble_eq_true rfl) ⟨Nat.le_of_ble_eq_true rfl, Nat.le_of_ble_eq_true rfl⟩ (c2 := 0) (s2 := 0) rfl rfl (x_isOfType none 0 (Or.inl ⟨rfl, rfl⟩) 3 (by decide) (by decide)) ?_
              refine g_ifN_eq (a := 0) (tgt := 52) hC dX9_held_45 (by decide) (by omega) (fun h45 => ?_) (fun h45 => ?_)
              · refine g_iconst hC dX9_held_52 (v := nI 0) (by decide) ?_
                have ho_p : ¬ isO S pj 3 := by unfold isO; rw [hk_p] <;> decide
                have hE : s_held S (nI pj) (nI 3) = (nI 0, (thS S)) := by
                  unfold s_held
                  rw [if_pos h4, if_pos hR_w, if_neg (show ¬ (nI 3 = 0) by decide), hpl_p, hpl_w, bI_f ho_p] <;> rfl
                exact g_iret hC hR dX9_held_53 ⟨b, congrArg (fun z => some (Value.int (Prod.fst z))) hE.symm, by rw [hE]; exact hx0, xG.rf⟩
              · exfalso; omega
            · have hw_p : wh S pj < S.1 4 := hI.wl hpj hk_p
              have hp0_p : plcF (thS S) b pj = some (b.1 0 (wh S pj)) := plc_k hpj hk_p (by decide)
              refine g_aald hC 5 rfl (hx0.Mp rfl).1 (hx0.Mp rfl).2 (pj) rfl (show pj < 10 by omega) (by decide) dX9_held_40 ?_
              refine g_val (w := .ref (b.1 0 (wh S pj))) (congrArg va_rf hp0_p) ?_
              refine g_iload_n hC dX9_held_41 rfl 2 rfl ?_
              refine g_S (As := [.ref (b.1 0 (wh S pj)), .int (nI 3)]) (st := []) hC 2 dX9_held_42 gX9_held_X9_isOfType rfl (by decide +kernel) ⟨Nat.le_of_ble_eq_true rfl, Nat.le_of_ble_eq_true rfl⟩ rfl (Nat.le_of_ble_eq_true rfl) ⟨Nat.le_of_ble_eq_true rfl, Nat.le_of_ble_eq_true rfl⟩ (c2 := 0) (s2 := 0) rfl rfl (x_isOfType (some (b.1 0 (wh S pj))) 1 (Or.inr ⟨_, 0, _, rfl, (hx0.B hw_p rfl), Or.inl ⟨rfl, rfl⟩⟩) 3 (by decide) (by decide)) ?_
              refine g_ifN_eq (a := 0) (tgt := 52) hC dX9_held_45 (by decide) (by omega) (fun h45 => ?_) (fun h45 => ?_)
              · refine g_iconst hC dX9_held_52 (v := nI 0) (by decide) ?_
                have ho_p : ¬ isO S pj 3 := by unfold isO; rw [hk_p] <;> decide
                have hE : s_held S (nI pj) (nI 3) = (nI 0, (thS S)) := by
                  unfold s_held
                  rw [if_pos h4, if_pos hR_w, if_neg (show ¬ (nI 3 = 0) by decide), hpl_p, hpl_w, bI_f ho_p] <;> rfl
                exact g_iret hC hR dX9_held_53 ⟨b, congrArg (fun z => some (Value.int (Prod.fst z))) hE.symm, by rw [hE]; exact hx0, xG.rf⟩
              · exfalso; omega
            · have hw_p : wh S pj < S.1 7 := hI.ws hpj hk_p
              have hp0_p : plcF (thS S) b pj = some (b.1 2 (wh S pj)) := plc_k hpj hk_p (by decide)
              refine g_aald hC 5 rfl (hx0.Mp rfl).1 (hx0.Mp rfl).2 (pj) rfl (show pj < 10 by omega) (by decide) dX9_held_40 ?_
              refine g_val (w := .ref (b.1 2 (wh S pj))) (congrArg va_rf hp0_p) ?_
              refine g_iload_n hC dX9_held_41 rfl 2 rfl ?_
              refine g_S (As := [.ref (b.1 2 (wh S pj)), .int (nI 3)]) (st := []) hC 2 dX9_held_42 gX9_held_X9_isOfType rfl (by decide +kernel) ⟨Nat.le_of_ble_eq_true rfl, Nat.le_of_ble_eq_true rfl⟩ rfl (Nat.le_of_ble_eq_true rfl) ⟨Nat.le_of_ble_eq_true rfl, Nat.le_of_ble_eq_true rfl⟩ (c2 := 0) (s2 := 0) rfl rfl (x_isOfType (some (b.1 2 (wh S pj))) 2 (Or.inr ⟨_, 4, _, rfl, (hx0.G hw_p rfl), Or.inr (Or.inl ⟨rfl, rfl⟩)⟩) 3 (by decide) (by decide)) ?_
              refine g_ifN_eq (a := 0) (tgt := 52) hC dX9_held_45 (by decide) (by omega) (fun h45 => ?_) (fun h45 => ?_)
              · refine g_iconst hC dX9_held_52 (v := nI 0) (by decide) ?_
                have ho_p : ¬ isO S pj 3 := by unfold isO; rw [hk_p] <;> decide
                have hE : s_held S (nI pj) (nI 3) = (nI 0, (thS S)) := by
                  unfold s_held
                  rw [if_pos h4, if_pos hR_w, if_neg (show ¬ (nI 3 = 0) by decide), hpl_p, hpl_w, bI_f ho_p] <;> rfl
                exact g_iret hC hR dX9_held_53 ⟨b, congrArg (fun z => some (Value.int (Prod.fst z))) hE.symm, by rw [hE]; exact hx0, xG.rf⟩
              · exfalso; omega
            · have hw_p : wh S pj < S.1 10 := hI.wr hpj hk_p
              have hp0_p : plcF (thS S) b pj = some (b.1 4 (wh S pj)) := plc_k hpj hk_p (by decide)
              refine g_aald hC 5 rfl (hx0.Mp rfl).1 (hx0.Mp rfl).2 (pj) rfl (show pj < 10 by omega) (by decide) dX9_held_40 ?_
              refine g_val (w := .ref (b.1 4 (wh S pj))) (congrArg va_rf hp0_p) ?_
              refine g_iload_n hC dX9_held_41 rfl 2 rfl ?_
              refine g_S (As := [.ref (b.1 4 (wh S pj)), .int (nI 3)]) (st := []) hC 2 dX9_held_42 gX9_held_X9_isOfType rfl (by decide +kernel) ⟨Nat.le_of_ble_eq_true rfl, Nat.le_of_ble_eq_true rfl⟩ rfl (Nat.le_of_ble_eq_true rfl) ⟨Nat.le_of_ble_eq_true rfl, Nat.le_of_ble_eq_true rfl⟩ (c2 := 0) (s2 := 0) rfl rfl (x_isOfType (some (b.1 4 (wh S pj))) 3 (Or.inr ⟨_, 3, _, rfl, (hx0.W hw_p rfl), Or.inr (Or.inr (Or.inl ⟨rfl, rfl⟩))⟩) 3 (by decide) (by decide)) ?_
              refine g_ifN_eq (a := 1) (tgt := 52) hC dX9_held_45 (by decide) (by omega) (fun h45 => ?_) (fun h45 => ?_)
              · exfalso; omega
              · refine g_iconst hC dX9_held_48 (v := nI 1) (by decide) ?_
                refine g_goto (tgt := 53) hC dX9_held_49 (by decide) ?_
                have ho_p : isO S pj 3 := by unfold isO; rw [hk_p] <;> decide
                have hE : s_held S (nI pj) (nI 3) = (nI 1, (thS S)) := by
                  unfold s_held
                  rw [if_pos h4, if_pos hR_w, if_neg (show ¬ (nI 3 = 0) by decide), hpl_p, hpl_w, bI_t ho_p] <;> rfl
                exact g_iret hC hR dX9_held_53 ⟨b, congrArg (fun z => some (Value.int (Prod.fst z))) hE.symm, by rw [hE]; exact hx0, xG.rf⟩
            · have hw_p : wh S pj < S.1 13 := hI.wt hpj (by omega)
              have hb_p : S.2.1 14 (wh S pj) = 0 := by have := ((hI.2.1 _ hpj).2.2.2.2.2 (by omega)).2; omega
              have hp0_p : plcF (thS S) b pj = some (b.1 6 (wh S pj)) := plc_k hpj hk_p (by decide)
              refine g_aald hC 5 rfl (hx0.Mp rfl).1 (hx0.Mp rfl).2 (pj) rfl (show pj < 10 by omega) (by decide) dX9_held_40 ?_
              refine g_val (w := .ref (b.1 6 (wh S pj))) (congrArg va_rf hp0_p) ?_
              refine g_iload_n hC dX9_held_41 rfl 2 rfl ?_
              refine g_S (As := [.ref (b.1 6 (wh S pj)), .int (nI 3)]) (st := []) hC 2 dX9_held_42 gX9_held_X9_isOfType rfl (by decide +kernel) ⟨Nat.le_of_ble_eq_true rfl, Nat.le_of_ble_eq_true rfl⟩ rfl (Nat.le_of_ble_eq_true rfl) ⟨Nat.le_of_ble_eq_true rfl, Nat.le_of_ble_eq_true rfl⟩ (c2 := 0) (s2 := 0) rfl rfl (x_isOfType (some (b.1 6 (wh S pj))) 4 (Or.inr ⟨_, 5, _, rfl, (hx0.T hw_p rfl hb_p), Or.inr (Or.inr (Or.inr (Or.inl ⟨rfl, rfl⟩)))⟩) 3 (by decide) (by decide)) ?_
              refine g_ifN_eq (a := 0) (tgt := 52) hC dX9_held_45 (by decide) (by omega) (fun h45 => ?_) (fun h45 => ?_)
              · refine g_iconst hC dX9_held_52 (v := nI 0) (by decide) ?_
                have ho_p : ¬ isO S pj 3 := by unfold isO; rw [hk_p] <;> decide
                have hE : s_held S (nI pj) (nI 3) = (nI 0, (thS S)) := by
                  unfold s_held
                  rw [if_pos h4, if_pos hR_w, if_neg (show ¬ (nI 3 = 0) by decide), hpl_p, hpl_w, bI_f ho_p] <;> rfl
                exact g_iret hC hR dX9_held_53 ⟨b, congrArg (fun z => some (Value.int (Prod.fst z))) hE.symm, by rw [hE]; exact hx0, xG.rf⟩
              · exfalso; omega
            · have hw_p : wh S pj < S.1 13 := hI.wt hpj (by omega)
              have hb_p : S.2.1 14 (wh S pj) ≠ 0 := by have := ((hI.2.1 _ hpj).2.2.2.2.2 (by omega)).2; omega
              have hp0_p : plcF (thS S) b pj = some (b.1 6 (wh S pj)) := plc_k hpj hk_p (by decide)
              refine g_aald hC 5 rfl (hx0.Mp rfl).1 (hx0.Mp rfl).2 (pj) rfl (show pj < 10 by omega) (by decide) dX9_held_40 ?_
              refine g_val (w := .ref (b.1 6 (wh S pj))) (congrArg va_rf hp0_p) ?_
              refine g_iload_n hC dX9_held_41 rfl 2 rfl ?_
              refine g_S (As := [.ref (b.1 6 (wh S pj)), .int (nI 3)]) (st := []) hC 2 dX9_held_42 gX9_held_X9_isOfType rfl (by decide +kernel) ⟨Nat.le_of_ble_eq_true rfl, Nat.le_of_ble_eq_true rfl⟩ rfl (Nat.le_of_ble_eq_true rfl) ⟨Nat.le_of_ble_eq_true rfl, Nat.le_of_ble_eq_true rfl⟩ (c2 := 0) (s2 := 0) rfl rfl (x_isOfType (some (b.1 6 (wh S pj))) 5 (Or.inr ⟨_, 1, _, rfl, (hx0.K hw_p rfl hb_p), Or.inr (Or.inr (Or.inr (Or.inr ⟨rfl, rfl⟩)))⟩) 3 (by decide) (by decide)) ?_
              refine g_ifN_eq (a := 0) (tgt := 52) hC dX9_held_45 (by decide) (by omega) (fun h45 => ?_) (fun h45 => ?_)
              · refine g_iconst hC dX9_held_52 (v := nI 0) (by decide) ?_
                have ho_p : ¬ isO S pj 3 := by unfold isO; rw [hk_p] <;> decide
                have hE : s_held S (nI pj) (nI 3) = (nI 0, (thS S)) := by
                  unfold s_held
                  rw [if_pos h4, if_pos hR_w, if_neg (show ¬ (nI 3 = 0) by decide), hpl_p, hpl_w, bI_f ho_p] <;> rfl
                exact g_iret hC hR dX9_held_53 ⟨b, congrArg (fun z => some (Value.int (Prod.fst z))) hE.symm, by rw [hE]; exact hx0, xG.rf⟩
              · exfalso; omega
          · exfalso; omega
        · have hpl_w : pl (nI 4) = 4 := by decide
          refine g_iload_n hC dX9_held_21 rfl 2 rfl ?_
          refine g_ifN_ne (a := 4) (tgt := 35) hC dX9_held_22 (by decide) (by omega) (fun h22 => ?_) (fun h22 => ?_)
          · refine g_aload_n hC dX9_held_35 rfl 0 rfl (Or.inr ⟨_, rfl⟩) ?_
            refine g_get hC (by decide +kernel) rfl (hx0.M hM).1 (hx0.M hM).2 0 (by decide) (by decide +kernel) (Or.inl rfl) rfl dX9_held_36 ?_
            refine g_iload_n hC dX9_held_39 rfl 1 rfl ?_
            have h5_p := hI.k5 hpj
            rcases (show kd S pj = 0 ∨ kd S pj = 1 ∨ kd S pj = 2 ∨ kd S pj = 3 ∨ kd S pj = 4 ∨ kd S pj = 5 by omega) with hk_p | hk_p | hk_p | hk_p | hk_p | hk_p
            · have hp0_p : plcF (thS S) b pj = none := plc_0 hpj hk_p
              refine g_aald hC 5 rfl (hx0.Mp rfl).1 (hx0.Mp rfl).2 (pj) rfl (show pj < 10 by omega) (by decide) dX9_held_40 ?_
              refine g_val (w := .null) (congrArg va_rf hp0_p) ?_
              refine g_iload_n hC dX9_held_41 rfl 2 rfl ?_
              refine g_S (As := [.null, .int (nI 4)]) (st := []) hC 2 dX9_held_42 gX9_held_X9_isOfType rfl (by decide +kernel) ⟨Nat.le_of_ble_eq_true rfl, Nat.le_of_ble_eq_true rfl⟩ rfl (Nat.le_of_ble_eq_true rfl) ⟨Nat.le_of_ble_eq_true rfl, Nat.le_of_ble_eq_true rfl⟩ (c2 := 0) (s2 := 0) rfl rfl (x_isOfType none 0 (Or.inl ⟨rfl, rfl⟩) 4 (by decide) (by decide)) ?_
              refine g_ifN_eq (a := 0) (tgt := 52) hC dX9_held_45 (by decide) (by omega) (fun h45 => ?_) (fun h45 => ?_)
              · refine g_iconst hC dX9_held_52 (v := nI 0) (by decide) ?_
                have ho_p : ¬ isO S pj 4 := by unfold isO; rw [hk_p] <;> decide
                have hE : s_held S (nI pj) (nI 4) = (nI 0, (thS S)) := by
                  unfold s_held
                  rw [if_pos h4, if_pos hR_w, if_neg (show ¬ (nI 4 = 0) by decide), hpl_p, hpl_w, bI_f ho_p] <;> rfl
                exact g_iret hC hR dX9_held_53 ⟨b, congrArg (fun z => some (Value.int (Prod.fst z))) hE.symm, by rw [hE]; exact hx0, xG.rf⟩
              · exfalso; omega
            · have hw_p : wh S pj < S.1 4 := hI.wl hpj hk_p
              have hp0_p : plcF (thS S) b pj = some (b.1 0 (wh S pj)) := plc_k hpj hk_p (by decide)
              refine g_aald hC 5 rfl (hx0.Mp rfl).1 (hx0.Mp rfl).2 (pj) rfl (show pj < 10 by omega) (by decide) dX9_held_40 ?_
              refine g_val (w := .ref (b.1 0 (wh S pj))) (congrArg va_rf hp0_p) ?_
              refine g_iload_n hC dX9_held_41 rfl 2 rfl ?_
              refine g_S (As := [.ref (b.1 0 (wh S pj)), .int (nI 4)]) (st := []) hC 2 dX9_held_42 gX9_held_X9_isOfType rfl (by decide +kernel) ⟨Nat.le_of_ble_eq_true rfl, Nat.le_of_ble_eq_true rfl⟩ rfl (Nat.le_of_ble_eq_true rfl) ⟨Nat.le_of_ble_eq_true rfl, Nat.le_of_ble_eq_true rfl⟩ (c2 := 0) (s2 := 0) rfl rfl (x_isOfType (some (b.1 0 (wh S pj))) 1 (Or.inr ⟨_, 0, _, rfl, (hx0.B hw_p rfl), Or.inl ⟨rfl, rfl⟩⟩) 4 (by decide) (by decide)) ?_
              refine g_ifN_eq (a := 0) (tgt := 52) hC dX9_held_45 (by decide) (by omega) (fun h45 => ?_) (fun h45 => ?_)
              · refine g_iconst hC dX9_held_52 (v := nI 0) (by decide) ?_
                have ho_p : ¬ isO S pj 4 := by unfold isO; rw [hk_p] <;> decide
                have hE : s_held S (nI pj) (nI 4) = (nI 0, (thS S)) := by
                  unfold s_held
                  rw [if_pos h4, if_pos hR_w, if_neg (show ¬ (nI 4 = 0) by decide), hpl_p, hpl_w, bI_f ho_p] <;> rfl
                exact g_iret hC hR dX9_held_53 ⟨b, congrArg (fun z => some (Value.int (Prod.fst z))) hE.symm, by rw [hE]; exact hx0, xG.rf⟩
              · exfalso; omega
            · have hw_p : wh S pj < S.1 7 := hI.ws hpj hk_p
              have hp0_p : plcF (thS S) b pj = some (b.1 2 (wh S pj)) := plc_k hpj hk_p (by decide)
              refine g_aald hC 5 rfl (hx0.Mp rfl).1 (hx0.Mp rfl).2 (pj) rfl (show pj < 10 by omega) (by decide) dX9_held_40 ?_
              refine g_val (w := .ref (b.1 2 (wh S pj))) (congrArg va_rf hp0_p) ?_
              refine g_iload_n hC dX9_held_41 rfl 2 rfl ?_
              refine g_S (As := [.ref (b.1 2 (wh S pj)), .int (nI 4)]) (st := []) hC 2 dX9_held_42 gX9_held_X9_isOfType rfl (by decide +kernel) ⟨Nat.le_of_ble_eq_true rfl, Nat.le_of_ble_eq_true rfl⟩ rfl (Nat.le_of_ble_eq_true rfl) ⟨Nat.le_of_ble_eq_true rfl, Nat.le_of_ble_eq_true rfl⟩ (c2 := 0) (s2 := 0) rfl rfl (x_isOfType (some (b.1 2 (wh S pj))) 2 (Or.inr ⟨_, 4, _, rfl, (hx0.G hw_p rfl), Or.inr (Or.inl ⟨rfl, rfl⟩)⟩) 4 (by decide) (by decide)) ?_
              refine g_ifN_eq (a := 0) (tgt := 52) hC dX9_held_45 (by decide) (by omega) (fun h45 => ?_) (fun h45 => ?_)
              · refine g_iconst hC dX9_held_52 (v := nI 0) (by decide) ?_
                have ho_p : ¬ isO S pj 4 := by unfold isO; rw [hk_p] <;> decide
                have hE : s_held S (nI pj) (nI 4) = (nI 0, (thS S)) := by
                  unfold s_held
                  rw [if_pos h4, if_pos hR_w, if_neg (show ¬ (nI 4 = 0) by decide), hpl_p, hpl_w, bI_f ho_p] <;> rfl
                exact g_iret hC hR dX9_held_53 ⟨b, congrArg (fun z => some (Value.int (Prod.fst z))) hE.symm, by rw [hE]; exact hx0, xG.rf⟩
              · exfalso; omega
            · have hw_p : wh S pj < S.1 10 := hI.wr hpj hk_p
              have hp0_p : plcF (thS S) b pj = some (b.1 4 (wh S pj)) := plc_k hpj hk_p (by decide)
              refine g_aald hC 5 rfl (hx0.Mp rfl).1 (hx0.Mp rfl).2 (pj) rfl (show pj < 10 by omega) (by decide) dX9_held_40 ?_
              refine g_val (w := .ref (b.1 4 (wh S pj))) (congrArg va_rf hp0_p) ?_
              refine g_iload_n hC dX9_held_41 rfl 2 rfl ?_
              refine g_S (As := [.ref (b.1 4 (wh S pj)), .int (nI 4)]) (st := []) hC 2 dX9_held_42 gX9_held_X9_isOfType rfl (by decide +kernel) ⟨Nat.le_of_ble_eq_true rfl, Nat.le_of_ble_eq_true rfl⟩ rfl (Nat.le_of_ble_eq_true rfl) ⟨Nat.le_of_ble_eq_true rfl, Nat.le_of_ble_eq_true rfl⟩ (c2 := 0) (s2 := 0) rfl rfl (x_isOfType (some (b.1 4 (wh S pj))) 3 (Or.inr ⟨_, 3, _, rfl, (hx0.W hw_p rfl), Or.inr (Or.inr (Or.inl ⟨rfl, rfl⟩))⟩) 4 (by decide) (by decide)) ?_
              refine g_ifN_eq (a := 0) (tgt := 52) hC dX9_held_45 (by decide) (by omega) (fun h45 => ?_) (fun h45 => ?_)
              · refine g_iconst hC dX9_held_52 (v := nI 0) (by decide) ?_
                have ho_p : ¬ isO S pj 4 := by unfold isO; rw [hk_p] <;> decide
                have hE : s_held S (nI pj) (nI 4) = (nI 0, (thS S)) := by
                  unfold s_held
                  rw [if_pos h4, if_pos hR_w, if_neg (show ¬ (nI 4 = 0) by decide), hpl_p, hpl_w, bI_f ho_p] <;> rfl
                exact g_iret hC hR dX9_held_53 ⟨b, congrArg (fun z => some (Value.int (Prod.fst z))) hE.symm, by rw [hE]; exact hx0, xG.rf⟩
              · exfalso; omega
            · have hw_p : wh S pj < S.1 13 := hI.wt hpj (by omega)
              have hb_p : S.2.1 14 (wh S pj) = 0 := by have := ((hI.2.1 _ hpj).2.2.2.2.2 (by omega)).2; omega
              have hp0_p : plcF (thS S) b pj = some (b.1 6 (wh S pj)) := plc_k hpj hk_p (by decide)
              refine g_aald hC 5 rfl (hx0.Mp rfl).1 (hx0.Mp rfl).2 (pj) rfl (show pj < 10 by omega) (by decide) dX9_held_40 ?_
              refine g_val (w := .ref (b.1 6 (wh S pj))) (congrArg va_rf hp0_p) ?_
              refine g_iload_n hC dX9_held_41 rfl 2 rfl ?_
              refine g_S (As := [.ref (b.1 6 (wh S pj)), .int (nI 4)]) (st := []) hC 2 dX9_held_42 gX9_held_X9_isOfType rfl (by decide +kernel) ⟨Nat.le_of_ble_eq_true rfl, Nat.le_of_ble_eq_true rfl⟩ rfl (Nat.le_of_ble_eq_true rfl) ⟨Nat.le_of_ble_eq_true rfl, Nat.le_of_ble_eq_true rfl⟩ (c2 := 0) (s2 := 0) rfl rfl (x_isOfType (some (b.1 6 (wh S pj))) 4 (Or.inr ⟨_, 5, _, rfl, (hx0.T hw_p rfl hb_p), Or.inr (Or.inr (Or.inr (Or.inl ⟨rfl, rfl⟩)))⟩) 4 (by decide) (by decide)) ?_
              refine g_ifN_eq (a := 1) (tgt := 52) hC dX9_held_45 (by decide) (by omega) (fun h45 => ?_) (fun h45 => ?_)
              · exfalso; omega
              · refine g_iconst hC dX9_held_48 (v := nI 1) (by decide) ?_
                refine g_goto (tgt := 53) hC dX9_held_49 (by decide) ?_
                have ho_p : isO S pj 4 := by unfold isO; rw [hk_p] <;> decide
                have hE : s_held S (nI pj) (nI 4) = (nI 1, (thS S)) := by
                  unfold s_held
                  rw [if_pos h4, if_pos hR_w, if_neg (show ¬ (nI 4 = 0) by decide), hpl_p, hpl_w, bI_t ho_p] <;> rfl
                exact g_iret hC hR dX9_held_53 ⟨b, congrArg (fun z => some (Value.int (Prod.fst z))) hE.symm, by rw [hE]; exact hx0, xG.rf⟩
            · have hw_p : wh S pj < S.1 13 := hI.wt hpj (by omega)
              have hb_p : S.2.1 14 (wh S pj) ≠ 0 := by have := ((hI.2.1 _ hpj).2.2.2.2.2 (by omega)).2; omega
              have hp0_p : plcF (thS S) b pj = some (b.1 6 (wh S pj)) := plc_k hpj hk_p (by decide)
              refine g_aald hC 5 rfl (hx0.Mp rfl).1 (hx0.Mp rfl).2 (pj) rfl (show pj < 10 by omega) (by decide) dX9_held_40 ?_
              refine g_val (w := .ref (b.1 6 (wh S pj))) (congrArg va_rf hp0_p) ?_
              refine g_iload_n hC dX9_held_41 rfl 2 rfl ?_
              refine g_S (As := [.ref (b.1 6 (wh S pj)), .int (nI 4)]) (st := []) hC 2 dX9_held_42 gX9_held_X9_isOfType rfl (by decide +kernel) ⟨Nat.le_of_ble_eq_true rfl, Nat.le_of_ble_eq_true rfl⟩ rfl (Nat.le_of_ble_eq_true rfl) ⟨Nat.le_of_ble_eq_true rfl, Nat.le_of_ble_eq_true rfl⟩ (c2 := 0) (s2 := 0) rfl rfl (x_isOfType (some (b.1 6 (wh S pj))) 5 (Or.inr ⟨_, 1, _, rfl, (hx0.K hw_p rfl hb_p), Or.inr (Or.inr (Or.inr (Or.inr ⟨rfl, rfl⟩)))⟩) 4 (by decide) (by decide)) ?_
              refine g_ifN_eq (a := 1) (tgt := 52) hC dX9_held_45 (by decide) (by omega) (fun h45 => ?_) (fun h45 => ?_)
              · exfalso; omega
              · refine g_iconst hC dX9_held_48 (v := nI 1) (by decide) ?_
                refine g_goto (tgt := 53) hC dX9_held_49 (by decide) ?_
                have ho_p : isO S pj 4 := by unfold isO; rw [hk_p] <;> decide
                have hE : s_held S (nI pj) (nI 4) = (nI 1, (thS S)) := by
                  unfold s_held
                  rw [if_pos h4, if_pos hR_w, if_neg (show ¬ (nI 4 = 0) by decide), hpl_p, hpl_w, bI_t ho_p] <;> rfl
                exact g_iret hC hR dX9_held_53 ⟨b, congrArg (fun z => some (Value.int (Prod.fst z))) hE.symm, by rw [hE]; exact hx0, xG.rf⟩
          · exfalso; omega
        · have hpl_w : pl (nI 5) = 5 := by decide
          refine g_iload_n hC dX9_held_21 rfl 2 rfl ?_
          refine g_ifN_ne (a := 5) (tgt := 35) hC dX9_held_22 (by decide) (by omega) (fun h22 => ?_) (fun h22 => ?_)
          · refine g_aload_n hC dX9_held_35 rfl 0 rfl (Or.inr ⟨_, rfl⟩) ?_
            refine g_get hC (by decide +kernel) rfl (hx0.M hM).1 (hx0.M hM).2 0 (by decide) (by decide +kernel) (Or.inl rfl) rfl dX9_held_36 ?_
            refine g_iload_n hC dX9_held_39 rfl 1 rfl ?_
            have h5_p := hI.k5 hpj
            rcases (show kd S pj = 0 ∨ kd S pj = 1 ∨ kd S pj = 2 ∨ kd S pj = 3 ∨ kd S pj = 4 ∨ kd S pj = 5 by omega) with hk_p | hk_p | hk_p | hk_p | hk_p | hk_p
            · have hp0_p : plcF (thS S) b pj = none := plc_0 hpj hk_p
              refine g_aald hC 5 rfl (hx0.Mp rfl).1 (hx0.Mp rfl).2 (pj) rfl (show pj < 10 by omega) (by decide) dX9_held_40 ?_
              refine g_val (w := .null) (congrArg va_rf hp0_p) ?_
              refine g_iload_n hC dX9_held_41 rfl 2 rfl ?_
              refine g_S (As := [.null, .int (nI 5)]) (st := []) hC 2 dX9_held_42 gX9_held_X9_isOfType rfl (by decide +kernel) ⟨Nat.le_of_ble_eq_true rfl, Nat.le_of_ble_eq_true rfl⟩ rfl (Nat.le_of_ble_eq_true rfl) ⟨Nat.le_of_ble_eq_true rfl, Nat.le_of_ble_eq_true rfl⟩ (c2 := 0) (s2 := 0) rfl rfl (x_isOfType none 0 (Or.inl ⟨rfl, rfl⟩) 5 (by decide) (by decide)) ?_
              refine g_ifN_eq (a := 0) (tgt := 52) hC dX9_held_45 (by decide) (by omega) (fun h45 => ?_) (fun h45 => ?_)
              · refine g_iconst hC dX9_held_52 (v := nI 0) (by decide) ?_
                have ho_p : ¬ isO S pj 5 := by unfold isO; rw [hk_p] <;> decide
                have hE : s_held S (nI pj) (nI 5) = (nI 0, (thS S)) := by
                  unfold s_held
                  rw [if_pos h4, if_pos hR_w, if_neg (show ¬ (nI 5 = 0) by decide), hpl_p, hpl_w, bI_f ho_p] <;> rfl
                exact g_iret hC hR dX9_held_53 ⟨b, congrArg (fun z => some (Value.int (Prod.fst z))) hE.symm, by rw [hE]; exact hx0, xG.rf⟩
              · exfalso; omega
            · have hw_p : wh S pj < S.1 4 := hI.wl hpj hk_p
              have hp0_p : plcF (thS S) b pj = some (b.1 0 (wh S pj)) := plc_k hpj hk_p (by decide)
              refine g_aald hC 5 rfl (hx0.Mp rfl).1 (hx0.Mp rfl).2 (pj) rfl (show pj < 10 by omega) (by decide) dX9_held_40 ?_
              refine g_val (w := .ref (b.1 0 (wh S pj))) (congrArg va_rf hp0_p) ?_
              refine g_iload_n hC dX9_held_41 rfl 2 rfl ?_
              refine g_S (As := [.ref (b.1 0 (wh S pj)), .int (nI 5)]) (st := []) hC 2 dX9_held_42 gX9_held_X9_isOfType rfl (by decide +kernel) ⟨Nat.le_of_ble_eq_true rfl, Nat.le_of_ble_eq_true rfl⟩ rfl (Nat.le_of_ble_eq_true rfl) ⟨Nat.le_of_ble_eq_true rfl, Nat.le_of_ble_eq_true rfl⟩ (c2 := 0) (s2 := 0) rfl rfl (x_isOfType (some (b.1 0 (wh S pj))) 1 (Or.inr ⟨_, 0, _, rfl, (hx0.B hw_p rfl), Or.inl ⟨rfl, rfl⟩⟩) 5 (by decide) (by decide)) ?_
              refine g_ifN_eq (a := 0) (tgt := 52) hC dX9_held_45 (by decide) (by omega) (fun h45 => ?_) (fun h45 => ?_)
              · refine g_iconst hC dX9_held_52 (v := nI 0) (by decide) ?_
                have ho_p : ¬ isO S pj 5 := by unfold isO; rw [hk_p] <;> decide
                have hE : s_held S (nI pj) (nI 5) = (nI 0, (thS S)) := by
                  unfold s_held
                  rw [if_pos h4, if_pos hR_w, if_neg (show ¬ (nI 5 = 0) by decide), hpl_p, hpl_w, bI_f ho_p] <;> rfl
                exact g_iret hC hR dX9_held_53 ⟨b, congrArg (fun z => some (Value.int (Prod.fst z))) hE.symm, by rw [hE]; exact hx0, xG.rf⟩
              · exfalso; omega
            · have hw_p : wh S pj < S.1 7 := hI.ws hpj hk_p
              have hp0_p : plcF (thS S) b pj = some (b.1 2 (wh S pj)) := plc_k hpj hk_p (by decide)
              refine g_aald hC 5 rfl (hx0.Mp rfl).1 (hx0.Mp rfl).2 (pj) rfl (show pj < 10 by omega) (by decide) dX9_held_40 ?_
              refine g_val (w := .ref (b.1 2 (wh S pj))) (congrArg va_rf hp0_p) ?_
              refine g_iload_n hC dX9_held_41 rfl 2 rfl ?_
              refine g_S (As := [.ref (b.1 2 (wh S pj)), .int (nI 5)]) (st := []) hC 2 dX9_held_42 gX9_held_X9_isOfType rfl (by decide +kernel) ⟨Nat.le_of_ble_eq_true rfl, Nat.le_of_ble_eq_true rfl⟩ rfl (Nat.le_of_ble_eq_true rfl) ⟨Nat.le_of_ble_eq_true rfl, Nat.le_of_ble_eq_true rfl⟩ (c2 := 0) (s2 := 0) rfl rfl (x_isOfType (some (b.1 2 (wh S pj))) 2 (Or.inr ⟨_, 4, _, rfl, (hx0.G hw_p rfl), Or.inr (Or.inl ⟨rfl, rfl⟩)⟩) 5 (by decide) (by decide)) ?_
              refine g_ifN_eq (a := 0) (tgt := 52) hC dX9_held_45 (by decide) (by omega) (fun h45 => ?_) (fun h45 => ?_)
              · refine g_iconst hC dX9_held_52 (v := nI 0) (by decide) ?_
                have ho_p : ¬ isO S pj 5 := by unfold isO; rw [hk_p] <;> decide
                have hE : s_held S (nI pj) (nI 5) = (nI 0, (thS S)) := by
                  unfold s_held
                  rw [if_pos h4, if_pos hR_w, if_neg (show ¬ (nI 5 = 0) by decide), hpl_p, hpl_w, bI_f ho_p] <;> rfl
                exact g_iret hC hR dX9_held_53 ⟨b, congrArg (fun z => some (Value.int (Prod.fst z))) hE.symm, by rw [hE]; exact hx0, xG.rf⟩
              · exfalso; omega
            · have hw_p : wh S pj < S.1 10 := hI.wr hpj hk_p
              have hp0_p : plcF (thS S) b pj = some (b.1 4 (wh S pj)) := plc_k hpj hk_p (by decide)
              refine g_aald hC 5 rfl (hx0.Mp rfl).1 (hx0.Mp rfl).2 (pj) rfl (show pj < 10 by omega) (by decide) dX9_held_40 ?_
              refine g_val (w := .ref (b.1 4 (wh S pj))) (congrArg va_rf hp0_p) ?_
              refine g_iload_n hC dX9_held_41 rfl 2 rfl ?_
              refine g_S (As := [.ref (b.1 4 (wh S pj)), .int (nI 5)]) (st := []) hC 2 dX9_held_42 gX9_held_X9_isOfType rfl (by decide +kernel) ⟨Nat.le_of_ble_eq_true rfl, Nat.le_of_ble_eq_true rfl⟩ rfl (Nat.le_of_ble_eq_true rfl) ⟨Nat.le_of_ble_eq_true rfl, Nat.le_of_ble_eq_true rfl⟩ (c2 := 0) (s2 := 0) rfl rfl (x_isOfType (some (b.1 4 (wh S pj))) 3 (Or.inr ⟨_, 3, _, rfl, (hx0.W hw_p rfl), Or.inr (Or.inr (Or.inl ⟨rfl, rfl⟩))⟩) 5 (by decide) (by decide)) ?_
              refine g_ifN_eq (a := 0) (tgt := 52) hC dX9_held_45 (by decide) (by omega) (fun h45 => ?_) (fun h45 => ?_)
              · refine g_iconst hC dX9_held_52 (v := nI 0) (by decide) ?_
                have ho_p : ¬ isO S pj 5 := by unfold isO; rw [hk_p] <;> decide
                have hE : s_held S (nI pj) (nI 5) = (nI 0, (thS S)) := by
                  unfold s_held
                  rw [if_pos h4, if_pos hR_w, if_neg (show ¬ (nI 5 = 0) by decide), hpl_p, hpl_w, bI_f ho_p] <;> rfl
                exact g_iret hC hR dX9_held_53 ⟨b, congrArg (fun z => some (Value.int (Prod.fst z))) hE.symm, by rw [hE]; exact hx0, xG.rf⟩
              · exfalso; omega
            · have hw_p : wh S pj < S.1 13 := hI.wt hpj (by omega)
              have hb_p : S.2.1 14 (wh S pj) = 0 := by have := ((hI.2.1 _ hpj).2.2.2.2.2 (by omega)).2; omega
              have hp0_p : plcF (thS S) b pj = some (b.1 6 (wh S pj)) := plc_k hpj hk_p (by decide)
              refine g_aald hC 5 rfl (hx0.Mp rfl).1 (hx0.Mp rfl).2 (pj) rfl (show pj < 10 by omega) (by decide) dX9_held_40 ?_
              refine g_val (w := .ref (b.1 6 (wh S pj))) (congrArg va_rf hp0_p) ?_
              refine g_iload_n hC dX9_held_41 rfl 2 rfl ?_
              refine g_S (As := [.ref (b.1 6 (wh S pj)), .int (nI 5)]) (st := []) hC 2 dX9_held_42 gX9_held_X9_isOfType rfl (by decide +kernel) ⟨Nat.le_of_ble_eq_true rfl, Nat.le_of_ble_eq_true rfl⟩ rfl (Nat.le_of_ble_eq_true rfl) ⟨Nat.le_of_ble_eq_true rfl, Nat.le_of_ble_eq_true rfl⟩ (c2 := 0) (s2 := 0) rfl rfl (x_isOfType (some (b.1 6 (wh S pj))) 4 (Or.inr ⟨_, 5, _, rfl, (hx0.T hw_p rfl hb_p), Or.inr (Or.inr (Or.inr (Or.inl ⟨rfl, rfl⟩)))⟩) 5 (by decide) (by decide)) ?_
              refine g_ifN_eq (a := 0) (tgt := 52) hC dX9_held_45 (by decide) (by omega) (fun h45 => ?_) (fun h45 => ?_)
              · refine g_iconst hC dX9_held_52 (v := nI 0) (by decide) ?_
                have ho_p : ¬ isO S pj 5 := by unfold isO; rw [hk_p] <;> decide
                have hE : s_held S (nI pj) (nI 5) = (nI 0, (thS S)) := by
                  unfold s_held
                  rw [if_pos h4, if_pos hR_w, if_neg (show ¬ (nI 5 = 0) by decide), hpl_p, hpl_w, bI_f ho_p] <;> rfl
                exact g_iret hC hR dX9_held_53 ⟨b, congrArg (fun z => some (Value.int (Prod.fst z))) hE.symm, by rw [hE]; exact hx0, xG.rf⟩
              · exfalso; omega
            · have hw_p : wh S pj < S.1 13 := hI.wt hpj (by omega)
              have hb_p : S.2.1 14 (wh S pj) ≠ 0 := by have := ((hI.2.1 _ hpj).2.2.2.2.2 (by omega)).2; omega
              have hp0_p : plcF (thS S) b pj = some (b.1 6 (wh S pj)) := plc_k hpj hk_p (by decide)
              refine g_aald hC 5 rfl (hx0.Mp rfl).1 (hx0.Mp rfl).2 (pj) rfl (show pj < 10 by omega) (by decide) dX9_held_40 ?_
              refine g_val (w := .ref (b.1 6 (wh S pj))) (congrArg va_rf hp0_p) ?_
              refine g_iload_n hC dX9_held_41 rfl 2 rfl ?_
              refine g_S (As := [.ref (b.1 6 (wh S pj)), .int (nI 5)]) (st := []) hC 2 dX9_held_42 gX9_held_X9_isOfType rfl (by decide +kernel) ⟨Nat.le_of_ble_eq_true rfl, Nat.le_of_ble_eq_true rfl⟩ rfl (Nat.le_of_ble_eq_true rfl) ⟨Nat.le_of_ble_eq_true rfl, Nat.le_of_ble_eq_true rfl⟩ (c2 := 0) (s2 := 0) rfl rfl (x_isOfType (some (b.1 6 (wh S pj))) 5 (Or.inr ⟨_, 1, _, rfl, (hx0.K hw_p rfl hb_p), Or.inr (Or.inr (Or.inr (Or.inr ⟨rfl, rfl⟩)))⟩) 5 (by decide) (by decide)) ?_
              refine g_ifN_eq (a := 1) (tgt := 52) hC dX9_held_45 (by decide) (by omega) (fun h45 => ?_) (fun h45 => ?_)
              · exfalso; omega
              · refine g_iconst hC dX9_held_48 (v := nI 1) (by decide) ?_
                refine g_goto (tgt := 53) hC dX9_held_49 (by decide) ?_
                have ho_p : isO S pj 5 := by unfold isO; rw [hk_p] <;> decide
                have hE : s_held S (nI pj) (nI 5) = (nI 1, (thS S)) := by
                  unfold s_held
                  rw [if_pos h4, if_pos hR_w, if_neg (show ¬ (nI 5 = 0) by decide), hpl_p, hpl_w, bI_t ho_p] <;> rfl
                exact g_iret hC hR dX9_held_53 ⟨b, congrArg (fun z => some (Value.int (Prod.fst z))) hE.symm, by rw [hE]; exact hx0, xG.rf⟩
          · exfalso; omega
      · refine g_bipush hC dX9_held_18 (v := (-2)) (by decide) ?_
        have hE : s_held S (nI pj) w = ((-2), (thS S)) := by
          unfold s_held
          rw [if_pos h4, if_neg (show ¬ (nI 0 ≤ w ∧ w ≤ nI 5) by
            have e1 : (nI 0).toInt = 0 := rfl
            have e2 : (nI 5).toInt = 5 := rfl
            intro z
            simp only [Int32.lt_iff_toInt_lt, Int32.le_iff_toInt_le, Int32.toInt_zero] at h15 z
            omega)] <;> rfl
        exact g_iret hC hR dX9_held_20 ⟨b, congrArg (fun z => some (Value.int (Prod.fst z))) hE.symm, by rw [hE]; exact hx0, xG.rf⟩
  · refine g_iconst hC dX9_held_7 (v := (-1)) (by decide) ?_
    have hE : s_held S p w = ((-1), (thS S)) := by
      unfold s_held
      rw [if_neg h4] <;> rfl
    exact g_iret hC hR dX9_held_8 ⟨b, congrArg (fun z => some (Value.int (Prod.fst z))) hE.symm, by rw [hE]; exact hx0, xG.rf⟩
set_option maxRecDepth 20000 in
set_option maxHeartbeats 4000000 in
theorem y_same {S : aS} {b : xB} (hx : xR cy S b L f) (hI : aI S) (M : Nat) (hM : b.1 9 0 = M) (p q : Int32) : gCt l D vwCl (gKK D cy adK adV) yX9_same wsX9_same { frames := 1, cells := 0, slots := 0, locals := 20 } [.ref M, .int p, .int q] L f (xP cy S b (s_same S p q).2 (fun _ => some (.int (s_same S p q).1))) := by
  refine gCt.of gKK_ok (by decide) rfl rfl (fun X hC hR hnm => ?_)
  have hC : gC X l _ D vwCl (cyT cy) (gKK D cy adK adV) cX9_same 3 wsX9_same RX9 := hC
  have hx0 := hx.th0
  have hI0 := hI.th
  show gW X vwCl 3 L f 0 0 0 [(0, .ref M), (1, .int p), (2, .int q)] []
  refine g_iload_n hC dX9_same_0 rfl 1 rfl ?_
  refine g_S (As := [.int p]) (st := []) hC 1 dX9_same_1 gX9_same_X9_isPlace rfl (by decide +kernel) ⟨Nat.le_of_ble_eq_true rfl, Nat.le_of_ble_eq_true rfl⟩ rfl (Nat.le_of_ble_eq_true rfl) ⟨Nat.le_of_ble_eq_true rfl, Nat.le_of_ble_eq_true rfl⟩ (c2 := 0) (s2 := 0) rfl rfl (x_isPlace _) ?_
  refine g_ifB_eq (P := isP p) (tgt := 14) hC dX9_same_4 (by decide) (fun h4 => ?_) (fun h4 => ?_)
  · refine g_iconst hC dX9_same_14 (v := (-1)) (by decide) ?_
    have hE : s_same S p q = ((-1), (thS S)) := by
      unfold s_same
      rw [if_neg h4] <;> rfl
    exact g_iret hC hR dX9_same_15 ⟨b, congrArg (fun z => some (Value.int (Prod.fst z))) hE.symm, by rw [hE]; exact hx0, xG.rf⟩
  · obtain ⟨pj, hpj, rfl⟩ := isP_j h4
    have hpl_p : pl (nI pj) = pj := nI_clamp (by omega)
    refine g_iload_n hC dX9_same_7 rfl 2 rfl ?_
    refine g_S (As := [.int q]) (st := []) hC 1 dX9_same_8 gX9_same_X9_isPlace rfl (by decide +kernel) ⟨Nat.le_of_ble_eq_true rfl, Nat.le_of_ble_eq_true rfl⟩ rfl (Nat.le_of_ble_eq_true rfl) ⟨Nat.le_of_ble_eq_true rfl, Nat.le_of_ble_eq_true rfl⟩ (c2 := 0) (s2 := 0) rfl rfl (x_isPlace _) ?_
    refine g_ifB_ne (P := isP q) (tgt := 16) hC dX9_same_11 (by decide) (fun h11 => ?_) (fun h11 => ?_)
    · obtain ⟨qj, hqj, rfl⟩ := isP_j h11
      have hpl_q : pl (nI qj) = qj := nI_clamp (by omega)
      refine g_aload_n hC dX9_same_16 rfl 0 rfl (Or.inr ⟨_, rfl⟩) ?_
      refine g_get hC (by decide +kernel) rfl (hx0.M hM).1 (hx0.M hM).2 0 (by decide) (by decide +kernel) (Or.inl rfl) rfl dX9_same_17 ?_
      refine g_iload_n hC dX9_same_20 rfl 1 rfl ?_
      refine g_aald hC 5 rfl (hx0.Mp rfl).1 (hx0.Mp rfl).2 (pj) rfl (show pj < 10 by omega) (by decide) dX9_same_21 ?_
      refine g_val (w := va_rf (pvo S b pj)) (congrArg va_rf (if_pos hpj)) ?_
      refine g_aload_n hC dX9_same_22 rfl 0 rfl (Or.inr ⟨_, rfl⟩) ?_
      refine g_get hC (by decide +kernel) rfl (hx0.M hM).1 (hx0.M hM).2 0 (by decide) (by decide +kernel) (Or.inl rfl) rfl dX9_same_23 ?_
      refine g_iload_n hC dX9_same_26 rfl 2 rfl ?_
      refine g_aald hC 5 rfl (hx0.Mp rfl).1 (hx0.Mp rfl).2 (qj) rfl (show qj < 10 by omega) (by decide) dX9_same_27 ?_
      refine g_val (w := va_rf (pvo S b qj)) (congrArg va_rf (if_pos hqj)) ?_
      refine g_acmp_ne (rx := pvo S b pj) (ry := pvo S b qj) (tgt := 35) hC dX9_same_28 (by decide) (fun h28 => ?_) (fun h28 => ?_)
      · refine g_iconst hC dX9_same_35 (v := nI 0) (by decide) ?_
        have hs9 : ¬ (kd S pj = kd S qj ∧ (kd S pj = 0 ∨ wh S pj = wh S qj)) := fun z => h28 ((same_pv hx hI hpj hqj).mpr z)
        have hE : s_same S (nI pj) (nI qj) = (nI 0, (thS S)) := by
          unfold s_same
          rw [if_pos h4, if_pos h11, hpl_p, hpl_q, bI_f hs9] <;> rfl
        exact g_iret hC hR dX9_same_36 ⟨b, congrArg (fun z => some (Value.int (Prod.fst z))) hE.symm, by rw [hE]; exact hx0, xG.rf⟩
      · refine g_iconst hC dX9_same_31 (v := nI 1) (by decide) ?_
        refine g_goto (tgt := 36) hC dX9_same_32 (by decide) ?_
        have hs9 : (kd S pj = kd S qj ∧ (kd S pj = 0 ∨ wh S pj = wh S qj)) := (same_pv hx hI hpj hqj).mp h28
        have hE : s_same S (nI pj) (nI qj) = (nI 1, (thS S)) := by
          unfold s_same
          rw [if_pos h4, if_pos h11, hpl_p, hpl_q, bI_t hs9] <;> rfl
        exact g_iret hC hR dX9_same_36 ⟨b, congrArg (fun z => some (Value.int (Prod.fst z))) hE.symm, by rw [hE]; exact hx0, xG.rf⟩
    · refine g_iconst hC dX9_same_14 (v := (-1)) (by decide) ?_
      have hE : s_same S (nI pj) q = ((-1), (thS S)) := by
        unfold s_same
        rw [if_pos h4, if_neg h11] <;> rfl
      exact g_iret hC hR dX9_same_15 ⟨b, congrArg (fun z => some (Value.int (Prod.fst z))) hE.symm, by rw [hE]; exact hx0, xG.rf⟩
set_option maxRecDepth 20000 in
set_option maxHeartbeats 4000000 in
theorem y_get {S : aS} {b : xB} (hx : xR cy S b L f) (hI : aI S) (M : Nat) (hM : b.1 9 0 = M) (p t i : Int32) : gCt l D vwCl (gKK D cy adK adV) yX9_get wsX9_get { frames := 5, cells := 0, slots := 0, locals := 106 } [.ref M, .int p, .int t, .int i] L f (xP cy S b (s_get S p t i).2 (fun _ => some (.long (s_get S p t i).1))) := by
  refine gCt.of gKK_ok (by decide) rfl rfl (fun X hC hR hnm => ?_)
  have hC : gC X l _ D vwCl (cyT cy) (gKK D cy adK adV) cX9_get 6 wsX9_get RX9 := hC
  have hx0 := hx.th0
  have hI0 := hI.th
  show gW X vwCl 6 L f 0 0 0 [(0, .ref M), (1, .int p), (2, .int t), (3, .int i)] []
  refine g_iload_n hC dX9_get_0 rfl 1 rfl ?_
  refine g_S (As := [.int p]) (st := []) hC 1 dX9_get_1 gX9_get_X9_isPlace rfl (by decide +kernel) ⟨Nat.le_of_ble_eq_true rfl, Nat.le_of_ble_eq_true rfl⟩ rfl (Nat.le_of_ble_eq_true rfl) ⟨Nat.le_of_ble_eq_true rfl, Nat.le_of_ble_eq_true rfl⟩ (c2 := 0) (s2 := 0) rfl rfl (x_isPlace _) ?_
  refine g_ifB_eq (P := isP p) (tgt := 14) hC dX9_get_4 (by decide) (fun h4 => ?_) (fun h4 => ?_)
  · refine g_ldc2 (v := -9223372036854775808) hC (by decide +kernel) dX9_get_14 ?_
    have hE : s_get S p t i = (-9223372036854775808, (thS S)) := by
      unfold s_get
      rw [if_neg h4] <;> rfl
    exact g_lret hC hR dX9_get_17 ⟨b, congrArg (fun z => some (Value.long (Prod.fst z))) hE.symm, by rw [hE]; exact hx0, xG.rf⟩
  · obtain ⟨pj, hpj, rfl⟩ := isP_j h4
    have hpl_p : pl (nI pj) = pj := nI_clamp (by omega)
    refine g_iload_n hC dX9_get_7 rfl 2 rfl ?_
    refine g_S (As := [.int t]) (st := []) hC 1 dX9_get_8 gX9_get_X9_isNumbersType rfl (by decide +kernel) ⟨Nat.le_of_ble_eq_true rfl, Nat.le_of_ble_eq_true rfl⟩ rfl (Nat.le_of_ble_eq_true rfl) ⟨Nat.le_of_ble_eq_true rfl, Nat.le_of_ble_eq_true rfl⟩ (c2 := 0) (s2 := 0) rfl rfl (x_isNumbersType _) ?_
    refine g_ifB_ne (P := nI 1 ≤ t ∧ t ≤ nI 2) (tgt := 18) hC dX9_get_11 (by decide) (fun h11 => ?_) (fun h11 => ?_)
    · obtain ⟨tj, ht1, ht2, rfl⟩ := ty_j (lo := 1) (hi := 2) (by decide) h11 (by decide)
      rcases (show tj = 1 ∨ tj = 2 by omega) with rfl | rfl
      · have hpl_t : pl (nI 1) = 1 := by decide
        refine g_aload_n hC dX9_get_18 rfl 0 rfl (Or.inr ⟨_, rfl⟩) ?_
        refine g_get hC (by decide +kernel) rfl (hx0.M hM).1 (hx0.M hM).2 0 (by decide) (by decide +kernel) (Or.inl rfl) rfl dX9_get_19 ?_
        refine g_iload_n hC dX9_get_22 rfl 1 rfl ?_
        have h5_p := hI.k5 hpj
        rcases (show kd S pj = 0 ∨ kd S pj = 1 ∨ kd S pj = 2 ∨ kd S pj = 3 ∨ kd S pj = 4 ∨ kd S pj = 5 by omega) with hk_p | hk_p | hk_p | hk_p | hk_p | hk_p
        · have hp0_p : plcF (thS S) b pj = none := plc_0 hpj hk_p
          refine g_aald hC 5 rfl (hx0.Mp rfl).1 (hx0.Mp rfl).2 (pj) rfl (show pj < 10 by omega) (by decide) dX9_get_23 ?_
          refine g_val (w := .null) (congrArg va_rf hp0_p) ?_
          refine g_iload_n hC dX9_get_24 rfl 2 rfl ?_
          refine g_iload_n hC dX9_get_25 rfl 3 rfl ?_
          refine g_S (As := [.null, .int (nI 1), .int i]) (st := []) hC 3 dX9_get_26 gX9_get_X9_cellFault rfl (by decide +kernel) ⟨Nat.le_of_ble_eq_true rfl, Nat.le_of_ble_eq_true rfl⟩ rfl (Nat.le_of_ble_eq_true rfl) ⟨Nat.le_of_ble_eq_true rfl, Nat.le_of_ble_eq_true rfl⟩ (c2 := 0) (s2 := 0) rfl rfl (x_cellFault_0 1 (by decide) _) ?_
          refine g_istore (lv' := [(4, .int (nI 1)), (0, .ref M), (1, .int (nI pj)), (2, .int (nI 1)), (3, .int i)]) hC dX9_get_29 (by decide) rfl ?_
          refine g_aload_n hC dX9_get_31 rfl 1 rfl (Or.inr ⟨_, rfl⟩) ?_
          refine g_get hC (by decide +kernel) rfl (hx0.M hM).1 (hx0.M hM).2 0 (by decide) (by decide +kernel) (Or.inl rfl) rfl dX9_get_32 ?_
          refine g_iload_n hC dX9_get_35 rfl 2 rfl ?_
          refine g_aald hC 5 rfl (hx0.Mp rfl).1 (hx0.Mp rfl).2 (pj) rfl (show pj < 10 by omega) (by decide) dX9_get_36 ?_
          refine g_val (w := .null) (congrArg va_rf hp0_p) ?_
          refine g_S (As := [.null]) (st := []) hC 1 dX9_get_37 gX9_get_X9_asNumbers rfl (by decide +kernel) ⟨Nat.le_of_ble_eq_true rfl, Nat.le_of_ble_eq_true rfl⟩ rfl (Nat.le_of_ble_eq_true rfl) ⟨Nat.le_of_ble_eq_true rfl, Nat.le_of_ble_eq_true rfl⟩ (c2 := 0) (s2 := 0) rfl rfl (x_asNumbers none 0 (Or.inl ⟨rfl, rfl⟩)) ?_
          refine g_astore (lv' := [(5, .null), (4, .int (nI 1)), (0, .ref M), (1, .int (nI pj)), (2, .int (nI 1)), (3, .int i)]) hC dX9_get_40 (by decide) rfl (Or.inl rfl) ?_
          refine g_iload hC dX9_get_42 1 rfl ?_
          refine g_ifN_ne (a := 1) (tgt := 52) hC dX9_get_44 (by decide) (by omega) (fun h44 => ?_) (fun h44 => ?_)
          · refine g_aload_n hC dX9_get_52 rfl 2 rfl (Or.inr ⟨_, rfl⟩) ?_
            refine g_iload hC dX9_get_53 1 rfl ?_
            refine g_Vx (As := [.int (nI 1)]) (st := []) hC 1 dX9_get_55 rfl (hx0.M hM).1 (hx0.M hM).2 gX9_get_X9_failedLong rfl (by decide +kernel) ⟨Nat.le_of_ble_eq_true rfl, Nat.le_of_ble_eq_true rfl⟩ rfl (Nat.le_of_ble_eq_true rfl) ⟨(Nat.le_of_ble_eq_true rfl), (Nat.le_of_ble_eq_true rfl)⟩ (c2 := 0) (s2 := 0) rfl rfl (x_failedLong hx0 M hM 1) (fun v1 L1 f1 hp1 => ?_)
            obtain ⟨rfl, hx1⟩ := hp1
            show gW X vwCl 6 L1 f1 0 0 58 [(5, .null), (4, .int (nI 1)), (0, .ref M), (1, .int (nI pj)), (2, .int (nI 1)), (3, .int i)] [.long noL]
            have hc_p : castF S pj 1 = 1 := by unfold castF isO; rw [hk_p] <;> decide
            have hE : s_get S (nI pj) (nI 1) i = (noL, (aSc (thS S) 1 1)) := by
              unfold s_get
              rw [if_pos h4, if_pos h11, hpl_p, hpl_t, hc_p, if_pos (show 0 < 1 by decide)] <;> rfl
            exact g_lret hC hR dX9_get_58 ⟨b, congrArg (fun z => some (Value.long (Prod.fst z))) hE.symm, by rw [hE]; exact hx1, xG.rf⟩
          · exfalso; omega
        · have hw_p : wh S pj < S.1 4 := hI.wl hpj hk_p
          have hp0_p : plcF (thS S) b pj = some (b.1 0 (wh S pj)) := plc_k hpj hk_p (by decide)
          refine g_aald hC 5 rfl (hx0.Mp rfl).1 (hx0.Mp rfl).2 (pj) rfl (show pj < 10 by omega) (by decide) dX9_get_23 ?_
          refine g_val (w := .ref (b.1 0 (wh S pj))) (congrArg va_rf hp0_p) ?_
          refine g_iload_n hC dX9_get_24 rfl 2 rfl ?_
          refine g_iload_n hC dX9_get_25 rfl 3 rfl ?_
          refine g_S (As := [.ref (b.1 0 (wh S pj)), .int (nI 1), .int i]) (st := []) hC 3 dX9_get_26 gX9_get_X9_cellFault rfl (by decide +kernel) ⟨Nat.le_of_ble_eq_true rfl, Nat.le_of_ble_eq_true rfl⟩ rfl (Nat.le_of_ble_eq_true rfl) ⟨Nat.le_of_ble_eq_true rfl, Nat.le_of_ble_eq_true rfl⟩ (c2 := 0) (s2 := 0) rfl rfl (x_cellFault_B _ _ _ _ (hx0.isB hw_p rfl (hI.bl hw_p)) 1 (by decide) _) ?_
          have hl9 := (hI.bl hw_p)
          by_cases hin : 0 ≤ i ∧ i < nI (S.2.1 5 (wh S pj))
          · have hR_i := (in_R (show S.2.1 5 (wh S pj) < 2 ^ 30 by omega)).mp hin
            refine g_val (w := .int (nI 0)) (congrArg Value.int (if_pos hin)) ?_
            obtain ⟨ij, hij, rfl⟩ := (in_j (show S.2.1 5 (wh S pj) < 2 ^ 30 by omega)).mp hin
            have hpl_i : pl (nI ij) = ij := nI_clamp (by omega)
            refine g_istore (lv' := [(4, .int (nI 0)), (0, .ref M), (1, .int (nI pj)), (2, .int (nI 1)), (3, .int (nI ij))]) hC dX9_get_29 (by decide) rfl ?_
            refine g_aload_n hC dX9_get_31 rfl 1 rfl (Or.inr ⟨_, rfl⟩) ?_
            refine g_get hC (by decide +kernel) rfl (hx0.M hM).1 (hx0.M hM).2 0 (by decide) (by decide +kernel) (Or.inl rfl) rfl dX9_get_32 ?_
            refine g_iload_n hC dX9_get_35 rfl 2 rfl ?_
            refine g_aald hC 5 rfl (hx0.Mp rfl).1 (hx0.Mp rfl).2 (pj) rfl (show pj < 10 by omega) (by decide) dX9_get_36 ?_
            refine g_val (w := .ref (b.1 0 (wh S pj))) (congrArg va_rf hp0_p) ?_
            refine g_S (As := [.ref (b.1 0 (wh S pj))]) (st := []) hC 1 dX9_get_37 gX9_get_X9_asNumbers rfl (by decide +kernel) ⟨Nat.le_of_ble_eq_true rfl, Nat.le_of_ble_eq_true rfl⟩ rfl (Nat.le_of_ble_eq_true rfl) ⟨Nat.le_of_ble_eq_true rfl, Nat.le_of_ble_eq_true rfl⟩ (c2 := 0) (s2 := 0) rfl rfl (x_asNumbers (some (b.1 0 (wh S pj))) 1 (Or.inr ⟨_, 0, _, rfl, (hx0.B hw_p rfl), Or.inl ⟨rfl, rfl⟩⟩)) ?_
            refine g_astore (lv' := [(5, .ref (b.1 0 (wh S pj))), (4, .int (nI 0)), (0, .ref M), (1, .int (nI pj)), (2, .int (nI 1)), (3, .int (nI ij))]) hC dX9_get_40 (by decide) rfl (Or.inr ⟨_, rfl⟩) ?_
            refine g_iload hC dX9_get_42 1 rfl ?_
            refine g_ifN_ne (a := 0) (tgt := 52) hC dX9_get_44 (by decide) (by omega) (fun h44 => ?_) (fun h44 => ?_)
            · exfalso; omega
            · refine g_aload hC dX9_get_47 0 rfl (Or.inr ⟨_, rfl⟩) ?_
              refine g_ifnonnull (o := some (b.1 0 (wh S pj))) (tgt := 59) hC dX9_get_49 (by decide) (fun a49 h49 => ?_) (fun h49 => ?_)
              · refine g_aload hC dX9_get_59 0 rfl (Or.inr ⟨_, rfl⟩) ?_
                refine g_iload_n hC dX9_get_61 rfl 5 rfl ?_
                refine g_A (As := [.int (nI ij)]) (st := []) hC 1 dX9_get_62 rfl (hx0.B hw_p rfl).1 (hx0.B hw_p rfl).2 gX9_get_X0_number_u95X0 rfl (gKK_D ⟨"KeptTerms$Numbers", "number", "(I)I"⟩ (by decide)) (by decide +kernel) ⟨Nat.le_of_ble_eq_true rfl, Nat.le_of_ble_eq_true rfl⟩ rfl (Nat.le_of_ble_eq_true rfl) ⟨Nat.le_of_ble_eq_true rfl, Nat.le_of_ble_eq_true rfl⟩ (c2 := 0) (s2 := 0) rfl rfl (x_0_number _ _ _ _ ij (show ij < S.2.1 5 (wh S pj) by omega) (hx0.isB hw_p rfl (hI.bl hw_p))) ?_
                refine g_val (w := .int (S.2.2 6 (16 * (wh S pj) + ij))) (congrArg Value.int (if_pos (show ij < S.2.1 5 (wh S pj) by omega))) ?_
                refine g_i2l hC dX9_get_65 rfl ?_
                have hc_p : castF S pj 1 = 0 := by unfold castF isO; rw [hk_p] <;> decide
                have hlg_p : longS S pj = S.2.1 5 (wh S pj) := by unfold longS; rw [hk_p] <;> rfl
                have hat_p : ∀ i, atS S pj i = S.2.2 6 (16 * wh S pj + i) := fun i => by unfold atS; rw [hk_p] <;> rfl
                have hE : s_get S (nI pj) (nI 1) (nI ij) = ((S.2.2 6 (16 * (wh S pj) + ij)).toInt64, (thS S)) := by
                  unfold s_get
                  rw [if_pos h4, if_pos h11, hpl_p, hpl_t, hc_p, if_neg (show ¬ 0 < 0 by decide), hlg_p, if_pos hR_i, hat_p, hpl_i] <;> rfl
                exact g_lret hC hR dX9_get_66 ⟨b, congrArg (fun z => some (Value.long (Prod.fst z))) hE.symm, by rw [hE]; exact hx0, xG.rf⟩
              · cases h49
          · have hR_i := fun z => hin ((in_R (show S.2.1 5 (wh S pj) < 2 ^ 30 by omega)).mpr z)
            refine g_val (w := .int (nI 3)) (congrArg Value.int (if_neg hin)) ?_
            refine g_istore (lv' := [(4, .int (nI 3)), (0, .ref M), (1, .int (nI pj)), (2, .int (nI 1)), (3, .int i)]) hC dX9_get_29 (by decide) rfl ?_
            refine g_aload_n hC dX9_get_31 rfl 1 rfl (Or.inr ⟨_, rfl⟩) ?_
            refine g_get hC (by decide +kernel) rfl (hx0.M hM).1 (hx0.M hM).2 0 (by decide) (by decide +kernel) (Or.inl rfl) rfl dX9_get_32 ?_
            refine g_iload_n hC dX9_get_35 rfl 2 rfl ?_
            refine g_aald hC 5 rfl (hx0.Mp rfl).1 (hx0.Mp rfl).2 (pj) rfl (show pj < 10 by omega) (by decide) dX9_get_36 ?_
            refine g_val (w := .ref (b.1 0 (wh S pj))) (congrArg va_rf hp0_p) ?_
            refine g_S (As := [.ref (b.1 0 (wh S pj))]) (st := []) hC 1 dX9_get_37 gX9_get_X9_asNumbers rfl (by decide +kernel) ⟨Nat.le_of_ble_eq_true rfl, Nat.le_of_ble_eq_true rfl⟩ rfl (Nat.le_of_ble_eq_true rfl) ⟨Nat.le_of_ble_eq_true rfl, Nat.le_of_ble_eq_true rfl⟩ (c2 := 0) (s2 := 0) rfl rfl (x_asNumbers (some (b.1 0 (wh S pj))) 1 (Or.inr ⟨_, 0, _, rfl, (hx0.B hw_p rfl), Or.inl ⟨rfl, rfl⟩⟩)) ?_
            refine g_astore (lv' := [(5, .ref (b.1 0 (wh S pj))), (4, .int (nI 3)), (0, .ref M), (1, .int (nI pj)), (2, .int (nI 1)), (3, .int i)]) hC dX9_get_40 (by decide) rfl (Or.inr ⟨_, rfl⟩) ?_
            refine g_iload hC dX9_get_42 1 rfl ?_
            refine g_ifN_ne (a := 3) (tgt := 52) hC dX9_get_44 (by decide) (by omega) (fun h44 => ?_) (fun h44 => ?_)
            · refine g_aload_n hC dX9_get_52 rfl 2 rfl (Or.inr ⟨_, rfl⟩) ?_
              refine g_iload hC dX9_get_53 1 rfl ?_
              refine g_Vx (As := [.int (nI 3)]) (st := []) hC 1 dX9_get_55 rfl (hx0.M hM).1 (hx0.M hM).2 gX9_get_X9_failedLong rfl (by decide +kernel) ⟨Nat.le_of_ble_eq_true rfl, Nat.le_of_ble_eq_true rfl⟩ rfl (Nat.le_of_ble_eq_true rfl) ⟨(Nat.le_of_ble_eq_true rfl), (Nat.le_of_ble_eq_true rfl)⟩ (c2 := 0) (s2 := 0) rfl rfl (x_failedLong hx0 M hM 3) (fun v1 L1 f1 hp1 => ?_)
              obtain ⟨rfl, hx1⟩ := hp1
              show gW X vwCl 6 L1 f1 0 0 58 [(5, .ref (b.1 0 (wh S pj))), (4, .int (nI 3)), (0, .ref M), (1, .int (nI pj)), (2, .int (nI 1)), (3, .int i)] [.long noL]
              have hc_p : castF S pj 1 = 0 := by unfold castF isO; rw [hk_p] <;> decide
              have hlg_p : longS S pj = S.2.1 5 (wh S pj) := by unfold longS; rw [hk_p] <;> rfl
              have hE : s_get S (nI pj) (nI 1) i = (noL, (aSc (thS S) 1 3)) := by
                unfold s_get
                rw [if_pos h4, if_pos h11, hpl_p, hpl_t, hc_p, if_neg (show ¬ 0 < 0 by decide), hlg_p, if_neg hR_i] <;> rfl
              exact g_lret hC hR dX9_get_58 ⟨b, congrArg (fun z => some (Value.long (Prod.fst z))) hE.symm, by rw [hE]; exact hx1, xG.rf⟩
            · exfalso; omega
        · have hw_p : wh S pj < S.1 7 := hI.ws hpj hk_p
          have hp0_p : plcF (thS S) b pj = some (b.1 2 (wh S pj)) := plc_k hpj hk_p (by decide)
          refine g_aald hC 5 rfl (hx0.Mp rfl).1 (hx0.Mp rfl).2 (pj) rfl (show pj < 10 by omega) (by decide) dX9_get_23 ?_
          refine g_val (w := .ref (b.1 2 (wh S pj))) (congrArg va_rf hp0_p) ?_
          refine g_iload_n hC dX9_get_24 rfl 2 rfl ?_
          refine g_iload_n hC dX9_get_25 rfl 3 rfl ?_
          refine g_S (As := [.ref (b.1 2 (wh S pj)), .int (nI 1), .int i]) (st := []) hC 3 dX9_get_26 gX9_get_X9_cellFault rfl (by decide +kernel) ⟨Nat.le_of_ble_eq_true rfl, Nat.le_of_ble_eq_true rfl⟩ rfl (Nat.le_of_ble_eq_true rfl) ⟨Nat.le_of_ble_eq_true rfl, Nat.le_of_ble_eq_true rfl⟩ (c2 := 0) (s2 := 0) rfl rfl (x_cellFault_S _ _ _ _ (hx0.isS hw_p rfl (hI.2.2.2.1 _ hw_p)) 1 (by decide) _) ?_
          refine g_istore (lv' := [(4, .int (nI 2)), (0, .ref M), (1, .int (nI pj)), (2, .int (nI 1)), (3, .int i)]) hC dX9_get_29 (by decide) rfl ?_
          refine g_aload_n hC dX9_get_31 rfl 1 rfl (Or.inr ⟨_, rfl⟩) ?_
          refine g_get hC (by decide +kernel) rfl (hx0.M hM).1 (hx0.M hM).2 0 (by decide) (by decide +kernel) (Or.inl rfl) rfl dX9_get_32 ?_
          refine g_iload_n hC dX9_get_35 rfl 2 rfl ?_
          refine g_aald hC 5 rfl (hx0.Mp rfl).1 (hx0.Mp rfl).2 (pj) rfl (show pj < 10 by omega) (by decide) dX9_get_36 ?_
          refine g_val (w := .ref (b.1 2 (wh S pj))) (congrArg va_rf hp0_p) ?_
          refine g_S (As := [.ref (b.1 2 (wh S pj))]) (st := []) hC 1 dX9_get_37 gX9_get_X9_asNumbers rfl (by decide +kernel) ⟨Nat.le_of_ble_eq_true rfl, Nat.le_of_ble_eq_true rfl⟩ rfl (Nat.le_of_ble_eq_true rfl) ⟨Nat.le_of_ble_eq_true rfl, Nat.le_of_ble_eq_true rfl⟩ (c2 := 0) (s2 := 0) rfl rfl (x_asNumbers (some (b.1 2 (wh S pj))) 2 (Or.inr ⟨_, 4, _, rfl, (hx0.G hw_p rfl), Or.inr (Or.inl ⟨rfl, rfl⟩)⟩)) ?_
          refine g_astore (lv' := [(5, .ref (b.1 2 (wh S pj))), (4, .int (nI 2)), (0, .ref M), (1, .int (nI pj)), (2, .int (nI 1)), (3, .int i)]) hC dX9_get_40 (by decide) rfl (Or.inr ⟨_, rfl⟩) ?_
          refine g_iload hC dX9_get_42 1 rfl ?_
          refine g_ifN_ne (a := 2) (tgt := 52) hC dX9_get_44 (by decide) (by omega) (fun h44 => ?_) (fun h44 => ?_)
          · refine g_aload_n hC dX9_get_52 rfl 2 rfl (Or.inr ⟨_, rfl⟩) ?_
            refine g_iload hC dX9_get_53 1 rfl ?_
            refine g_Vx (As := [.int (nI 2)]) (st := []) hC 1 dX9_get_55 rfl (hx0.M hM).1 (hx0.M hM).2 gX9_get_X9_failedLong rfl (by decide +kernel) ⟨Nat.le_of_ble_eq_true rfl, Nat.le_of_ble_eq_true rfl⟩ rfl (Nat.le_of_ble_eq_true rfl) ⟨(Nat.le_of_ble_eq_true rfl), (Nat.le_of_ble_eq_true rfl)⟩ (c2 := 0) (s2 := 0) rfl rfl (x_failedLong hx0 M hM 2) (fun v1 L1 f1 hp1 => ?_)
            obtain ⟨rfl, hx1⟩ := hp1
            show gW X vwCl 6 L1 f1 0 0 58 [(5, .ref (b.1 2 (wh S pj))), (4, .int (nI 2)), (0, .ref M), (1, .int (nI pj)), (2, .int (nI 1)), (3, .int i)] [.long noL]
            have hc_p : castF S pj 1 = 2 := by unfold castF isO; rw [hk_p] <;> decide
            have hE : s_get S (nI pj) (nI 1) i = (noL, (aSc (thS S) 1 2)) := by
              unfold s_get
              rw [if_pos h4, if_pos h11, hpl_p, hpl_t, hc_p, if_pos (show 0 < 2 by decide)] <;> rfl
            exact g_lret hC hR dX9_get_58 ⟨b, congrArg (fun z => some (Value.long (Prod.fst z))) hE.symm, by rw [hE]; exact hx1, xG.rf⟩
          · exfalso; omega
        · have hw_p : wh S pj < S.1 10 := hI.wr hpj hk_p
          have hp0_p : plcF (thS S) b pj = some (b.1 4 (wh S pj)) := plc_k hpj hk_p (by decide)
          refine g_aald hC 5 rfl (hx0.Mp rfl).1 (hx0.Mp rfl).2 (pj) rfl (show pj < 10 by omega) (by decide) dX9_get_23 ?_
          refine g_val (w := .ref (b.1 4 (wh S pj))) (congrArg va_rf hp0_p) ?_
          refine g_iload_n hC dX9_get_24 rfl 2 rfl ?_
          refine g_iload_n hC dX9_get_25 rfl 3 rfl ?_
          refine g_S (As := [.ref (b.1 4 (wh S pj)), .int (nI 1), .int i]) (st := []) hC 3 dX9_get_26 gX9_get_X9_cellFault rfl (by decide +kernel) ⟨Nat.le_of_ble_eq_true rfl, Nat.le_of_ble_eq_true rfl⟩ rfl (Nat.le_of_ble_eq_true rfl) ⟨Nat.le_of_ble_eq_true rfl, Nat.le_of_ble_eq_true rfl⟩ (c2 := 0) (s2 := 0) rfl rfl (x_cellFault_R _ _ _ _ (isR.B hx0 hw_p rfl (hI.2.2.2.2.1 _ hw_p)) 1 (by decide) _) ?_
          refine g_istore (lv' := [(4, .int (nI 2)), (0, .ref M), (1, .int (nI pj)), (2, .int (nI 1)), (3, .int i)]) hC dX9_get_29 (by decide) rfl ?_
          refine g_aload_n hC dX9_get_31 rfl 1 rfl (Or.inr ⟨_, rfl⟩) ?_
          refine g_get hC (by decide +kernel) rfl (hx0.M hM).1 (hx0.M hM).2 0 (by decide) (by decide +kernel) (Or.inl rfl) rfl dX9_get_32 ?_
          refine g_iload_n hC dX9_get_35 rfl 2 rfl ?_
          refine g_aald hC 5 rfl (hx0.Mp rfl).1 (hx0.Mp rfl).2 (pj) rfl (show pj < 10 by omega) (by decide) dX9_get_36 ?_
          refine g_val (w := .ref (b.1 4 (wh S pj))) (congrArg va_rf hp0_p) ?_
          refine g_S (As := [.ref (b.1 4 (wh S pj))]) (st := []) hC 1 dX9_get_37 gX9_get_X9_asNumbers rfl (by decide +kernel) ⟨Nat.le_of_ble_eq_true rfl, Nat.le_of_ble_eq_true rfl⟩ rfl (Nat.le_of_ble_eq_true rfl) ⟨Nat.le_of_ble_eq_true rfl, Nat.le_of_ble_eq_true rfl⟩ (c2 := 0) (s2 := 0) rfl rfl (x_asNumbers (some (b.1 4 (wh S pj))) 3 (Or.inr ⟨_, 3, _, rfl, (hx0.W hw_p rfl), Or.inr (Or.inr (Or.inl ⟨rfl, rfl⟩))⟩)) ?_
          refine g_astore (lv' := [(5, .null), (4, .int (nI 2)), (0, .ref M), (1, .int (nI pj)), (2, .int (nI 1)), (3, .int i)]) hC dX9_get_40 (by decide) rfl (Or.inl rfl) ?_
          refine g_iload hC dX9_get_42 1 rfl ?_
          refine g_ifN_ne (a := 2) (tgt := 52) hC dX9_get_44 (by decide) (by omega) (fun h44 => ?_) (fun h44 => ?_)
          · refine g_aload_n hC dX9_get_52 rfl 2 rfl (Or.inr ⟨_, rfl⟩) ?_
            refine g_iload hC dX9_get_53 1 rfl ?_
            refine g_Vx (As := [.int (nI 2)]) (st := []) hC 1 dX9_get_55 rfl (hx0.M hM).1 (hx0.M hM).2 gX9_get_X9_failedLong rfl (by decide +kernel) ⟨Nat.le_of_ble_eq_true rfl, Nat.le_of_ble_eq_true rfl⟩ rfl (Nat.le_of_ble_eq_true rfl) ⟨(Nat.le_of_ble_eq_true rfl), (Nat.le_of_ble_eq_true rfl)⟩ (c2 := 0) (s2 := 0) rfl rfl (x_failedLong hx0 M hM 2) (fun v1 L1 f1 hp1 => ?_)
            obtain ⟨rfl, hx1⟩ := hp1
            show gW X vwCl 6 L1 f1 0 0 58 [(5, .null), (4, .int (nI 2)), (0, .ref M), (1, .int (nI pj)), (2, .int (nI 1)), (3, .int i)] [.long noL]
            have hc_p : castF S pj 1 = 2 := by unfold castF isO; rw [hk_p] <;> decide
            have hE : s_get S (nI pj) (nI 1) i = (noL, (aSc (thS S) 1 2)) := by
              unfold s_get
              rw [if_pos h4, if_pos h11, hpl_p, hpl_t, hc_p, if_pos (show 0 < 2 by decide)] <;> rfl
            exact g_lret hC hR dX9_get_58 ⟨b, congrArg (fun z => some (Value.long (Prod.fst z))) hE.symm, by rw [hE]; exact hx1, xG.rf⟩
          · exfalso; omega
        · have hw_p : wh S pj < S.1 13 := hI.wt hpj (by omega)
          have hb_p : S.2.1 14 (wh S pj) = 0 := by have := ((hI.2.1 _ hpj).2.2.2.2.2 (by omega)).2; omega
          have hp0_p : plcF (thS S) b pj = some (b.1 6 (wh S pj)) := plc_k hpj hk_p (by decide)
          refine g_aald hC 5 rfl (hx0.Mp rfl).1 (hx0.Mp rfl).2 (pj) rfl (show pj < 10 by omega) (by decide) dX9_get_23 ?_
          refine g_val (w := .ref (b.1 6 (wh S pj))) (congrArg va_rf hp0_p) ?_
          refine g_iload_n hC dX9_get_24 rfl 2 rfl ?_
          refine g_iload_n hC dX9_get_25 rfl 3 rfl ?_
          refine g_S (As := [.ref (b.1 6 (wh S pj)), .int (nI 1), .int i]) (st := []) hC 3 dX9_get_26 gX9_get_X9_cellFault rfl (by decide +kernel) ⟨Nat.le_of_ble_eq_true rfl, Nat.le_of_ble_eq_true rfl⟩ rfl (Nat.le_of_ble_eq_true rfl) ⟨Nat.le_of_ble_eq_true rfl, Nat.le_of_ble_eq_true rfl⟩ (c2 := 0) (s2 := 0) rfl rfl (x_cellFault_T _ _ (hx0.T hw_p rfl hb_p) 1 (by decide) _) ?_
          refine g_istore (lv' := [(4, .int (nI 2)), (0, .ref M), (1, .int (nI pj)), (2, .int (nI 1)), (3, .int i)]) hC dX9_get_29 (by decide) rfl ?_
          refine g_aload_n hC dX9_get_31 rfl 1 rfl (Or.inr ⟨_, rfl⟩) ?_
          refine g_get hC (by decide +kernel) rfl (hx0.M hM).1 (hx0.M hM).2 0 (by decide) (by decide +kernel) (Or.inl rfl) rfl dX9_get_32 ?_
          refine g_iload_n hC dX9_get_35 rfl 2 rfl ?_
          refine g_aald hC 5 rfl (hx0.Mp rfl).1 (hx0.Mp rfl).2 (pj) rfl (show pj < 10 by omega) (by decide) dX9_get_36 ?_
          refine g_val (w := .ref (b.1 6 (wh S pj))) (congrArg va_rf hp0_p) ?_
          refine g_S (As := [.ref (b.1 6 (wh S pj))]) (st := []) hC 1 dX9_get_37 gX9_get_X9_asNumbers rfl (by decide +kernel) ⟨Nat.le_of_ble_eq_true rfl, Nat.le_of_ble_eq_true rfl⟩ rfl (Nat.le_of_ble_eq_true rfl) ⟨Nat.le_of_ble_eq_true rfl, Nat.le_of_ble_eq_true rfl⟩ (c2 := 0) (s2 := 0) rfl rfl (x_asNumbers (some (b.1 6 (wh S pj))) 4 (Or.inr ⟨_, 5, _, rfl, (hx0.T hw_p rfl hb_p), Or.inr (Or.inr (Or.inr (Or.inl ⟨rfl, rfl⟩)))⟩)) ?_
          refine g_astore (lv' := [(5, .null), (4, .int (nI 2)), (0, .ref M), (1, .int (nI pj)), (2, .int (nI 1)), (3, .int i)]) hC dX9_get_40 (by decide) rfl (Or.inl rfl) ?_
          refine g_iload hC dX9_get_42 1 rfl ?_
          refine g_ifN_ne (a := 2) (tgt := 52) hC dX9_get_44 (by decide) (by omega) (fun h44 => ?_) (fun h44 => ?_)
          · refine g_aload_n hC dX9_get_52 rfl 2 rfl (Or.inr ⟨_, rfl⟩) ?_
            refine g_iload hC dX9_get_53 1 rfl ?_
            refine g_Vx (As := [.int (nI 2)]) (st := []) hC 1 dX9_get_55 rfl (hx0.M hM).1 (hx0.M hM).2 gX9_get_X9_failedLong rfl (by decide +kernel) ⟨Nat.le_of_ble_eq_true rfl, Nat.le_of_ble_eq_true rfl⟩ rfl (Nat.le_of_ble_eq_true rfl) ⟨(Nat.le_of_ble_eq_true rfl), (Nat.le_of_ble_eq_true rfl)⟩ (c2 := 0) (s2 := 0) rfl rfl (x_failedLong hx0 M hM 2) (fun v1 L1 f1 hp1 => ?_)
            obtain ⟨rfl, hx1⟩ := hp1
            show gW X vwCl 6 L1 f1 0 0 58 [(5, .null), (4, .int (nI 2)), (0, .ref M), (1, .int (nI pj)), (2, .int (nI 1)), (3, .int i)] [.long noL]
            have hc_p : castF S pj 1 = 2 := by unfold castF isO; rw [hk_p] <;> decide
            have hE : s_get S (nI pj) (nI 1) i = (noL, (aSc (thS S) 1 2)) := by
              unfold s_get
              rw [if_pos h4, if_pos h11, hpl_p, hpl_t, hc_p, if_pos (show 0 < 2 by decide)] <;> rfl
            exact g_lret hC hR dX9_get_58 ⟨b, congrArg (fun z => some (Value.long (Prod.fst z))) hE.symm, by rw [hE]; exact hx1, xG.rf⟩
          · exfalso; omega
        · have hw_p : wh S pj < S.1 13 := hI.wt hpj (by omega)
          have hb_p : S.2.1 14 (wh S pj) ≠ 0 := by have := ((hI.2.1 _ hpj).2.2.2.2.2 (by omega)).2; omega
          have hp0_p : plcF (thS S) b pj = some (b.1 6 (wh S pj)) := plc_k hpj hk_p (by decide)
          refine g_aald hC 5 rfl (hx0.Mp rfl).1 (hx0.Mp rfl).2 (pj) rfl (show pj < 10 by omega) (by decide) dX9_get_23 ?_
          refine g_val (w := .ref (b.1 6 (wh S pj))) (congrArg va_rf hp0_p) ?_
          refine g_iload_n hC dX9_get_24 rfl 2 rfl ?_
          refine g_iload_n hC dX9_get_25 rfl 3 rfl ?_
          refine g_S (As := [.ref (b.1 6 (wh S pj)), .int (nI 1), .int i]) (st := []) hC 3 dX9_get_26 gX9_get_X9_cellFault rfl (by decide +kernel) ⟨Nat.le_of_ble_eq_true rfl, Nat.le_of_ble_eq_true rfl⟩ rfl (Nat.le_of_ble_eq_true rfl) ⟨Nat.le_of_ble_eq_true rfl, Nat.le_of_ble_eq_true rfl⟩ (c2 := 0) (s2 := 0) rfl rfl (x_cellFault_K _ _ (hx0.K hw_p rfl hb_p) 1 (by decide) _) ?_
          refine g_istore (lv' := [(4, .int (nI 2)), (0, .ref M), (1, .int (nI pj)), (2, .int (nI 1)), (3, .int i)]) hC dX9_get_29 (by decide) rfl ?_
          refine g_aload_n hC dX9_get_31 rfl 1 rfl (Or.inr ⟨_, rfl⟩) ?_
          refine g_get hC (by decide +kernel) rfl (hx0.M hM).1 (hx0.M hM).2 0 (by decide) (by decide +kernel) (Or.inl rfl) rfl dX9_get_32 ?_
          refine g_iload_n hC dX9_get_35 rfl 2 rfl ?_
          refine g_aald hC 5 rfl (hx0.Mp rfl).1 (hx0.Mp rfl).2 (pj) rfl (show pj < 10 by omega) (by decide) dX9_get_36 ?_
          refine g_val (w := .ref (b.1 6 (wh S pj))) (congrArg va_rf hp0_p) ?_
          refine g_S (As := [.ref (b.1 6 (wh S pj))]) (st := []) hC 1 dX9_get_37 gX9_get_X9_asNumbers rfl (by decide +kernel) ⟨Nat.le_of_ble_eq_true rfl, Nat.le_of_ble_eq_true rfl⟩ rfl (Nat.le_of_ble_eq_true rfl) ⟨Nat.le_of_ble_eq_true rfl, Nat.le_of_ble_eq_true rfl⟩ (c2 := 0) (s2 := 0) rfl rfl (x_asNumbers (some (b.1 6 (wh S pj))) 5 (Or.inr ⟨_, 1, _, rfl, (hx0.K hw_p rfl hb_p), Or.inr (Or.inr (Or.inr (Or.inr ⟨rfl, rfl⟩)))⟩)) ?_
          refine g_astore (lv' := [(5, .null), (4, .int (nI 2)), (0, .ref M), (1, .int (nI pj)), (2, .int (nI 1)), (3, .int i)]) hC dX9_get_40 (by decide) rfl (Or.inl rfl) ?_
          refine g_iload hC dX9_get_42 1 rfl ?_
          refine g_ifN_ne (a := 2) (tgt := 52) hC dX9_get_44 (by decide) (by omega) (fun h44 => ?_) (fun h44 => ?_)
          · refine g_aload_n hC dX9_get_52 rfl 2 rfl (Or.inr ⟨_, rfl⟩) ?_
            refine g_iload hC dX9_get_53 1 rfl ?_
            refine g_Vx (As := [.int (nI 2)]) (st := []) hC 1 dX9_get_55 rfl (hx0.M hM).1 (hx0.M hM).2 gX9_get_X9_failedLong rfl (by decide +kernel) ⟨Nat.le_of_ble_eq_true rfl, Nat.le_of_ble_eq_true rfl⟩ rfl (Nat.le_of_ble_eq_true rfl) ⟨(Nat.le_of_ble_eq_true rfl), (Nat.le_of_ble_eq_true rfl)⟩ (c2 := 0) (s2 := 0) rfl rfl (x_failedLong hx0 M hM 2) (fun v1 L1 f1 hp1 => ?_)
            obtain ⟨rfl, hx1⟩ := hp1
            show gW X vwCl 6 L1 f1 0 0 58 [(5, .null), (4, .int (nI 2)), (0, .ref M), (1, .int (nI pj)), (2, .int (nI 1)), (3, .int i)] [.long noL]
            have hc_p : castF S pj 1 = 2 := by unfold castF isO; rw [hk_p] <;> decide
            have hE : s_get S (nI pj) (nI 1) i = (noL, (aSc (thS S) 1 2)) := by
              unfold s_get
              rw [if_pos h4, if_pos h11, hpl_p, hpl_t, hc_p, if_pos (show 0 < 2 by decide)] <;> rfl
            exact g_lret hC hR dX9_get_58 ⟨b, congrArg (fun z => some (Value.long (Prod.fst z))) hE.symm, by rw [hE]; exact hx1, xG.rf⟩
          · exfalso; omega
      · have hpl_t : pl (nI 2) = 2 := by decide
        refine g_aload_n hC dX9_get_18 rfl 0 rfl (Or.inr ⟨_, rfl⟩) ?_
        refine g_get hC (by decide +kernel) rfl (hx0.M hM).1 (hx0.M hM).2 0 (by decide) (by decide +kernel) (Or.inl rfl) rfl dX9_get_19 ?_
        refine g_iload_n hC dX9_get_22 rfl 1 rfl ?_
        have h5_p := hI.k5 hpj
        rcases (show kd S pj = 0 ∨ kd S pj = 1 ∨ kd S pj = 2 ∨ kd S pj = 3 ∨ kd S pj = 4 ∨ kd S pj = 5 by omega) with hk_p | hk_p | hk_p | hk_p | hk_p | hk_p
        · have hp0_p : plcF (thS S) b pj = none := plc_0 hpj hk_p
          refine g_aald hC 5 rfl (hx0.Mp rfl).1 (hx0.Mp rfl).2 (pj) rfl (show pj < 10 by omega) (by decide) dX9_get_23 ?_
          refine g_val (w := .null) (congrArg va_rf hp0_p) ?_
          refine g_iload_n hC dX9_get_24 rfl 2 rfl ?_
          refine g_iload_n hC dX9_get_25 rfl 3 rfl ?_
          refine g_S (As := [.null, .int (nI 2), .int i]) (st := []) hC 3 dX9_get_26 gX9_get_X9_cellFault rfl (by decide +kernel) ⟨Nat.le_of_ble_eq_true rfl, Nat.le_of_ble_eq_true rfl⟩ rfl (Nat.le_of_ble_eq_true rfl) ⟨Nat.le_of_ble_eq_true rfl, Nat.le_of_ble_eq_true rfl⟩ (c2 := 0) (s2 := 0) rfl rfl (x_cellFault_0 2 (by decide) _) ?_
          refine g_istore (lv' := [(4, .int (nI 1)), (0, .ref M), (1, .int (nI pj)), (2, .int (nI 2)), (3, .int i)]) hC dX9_get_29 (by decide) rfl ?_
          refine g_aload_n hC dX9_get_31 rfl 1 rfl (Or.inr ⟨_, rfl⟩) ?_
          refine g_get hC (by decide +kernel) rfl (hx0.M hM).1 (hx0.M hM).2 0 (by decide) (by decide +kernel) (Or.inl rfl) rfl dX9_get_32 ?_
          refine g_iload_n hC dX9_get_35 rfl 2 rfl ?_
          refine g_aald hC 5 rfl (hx0.Mp rfl).1 (hx0.Mp rfl).2 (pj) rfl (show pj < 10 by omega) (by decide) dX9_get_36 ?_
          refine g_val (w := .null) (congrArg va_rf hp0_p) ?_
          refine g_S (As := [.null]) (st := []) hC 1 dX9_get_37 gX9_get_X9_asNumbers rfl (by decide +kernel) ⟨Nat.le_of_ble_eq_true rfl, Nat.le_of_ble_eq_true rfl⟩ rfl (Nat.le_of_ble_eq_true rfl) ⟨Nat.le_of_ble_eq_true rfl, Nat.le_of_ble_eq_true rfl⟩ (c2 := 0) (s2 := 0) rfl rfl (x_asNumbers none 0 (Or.inl ⟨rfl, rfl⟩)) ?_
          refine g_astore (lv' := [(5, .null), (4, .int (nI 1)), (0, .ref M), (1, .int (nI pj)), (2, .int (nI 2)), (3, .int i)]) hC dX9_get_40 (by decide) rfl (Or.inl rfl) ?_
          refine g_iload hC dX9_get_42 1 rfl ?_
          refine g_ifN_ne (a := 1) (tgt := 52) hC dX9_get_44 (by decide) (by omega) (fun h44 => ?_) (fun h44 => ?_)
          · refine g_aload_n hC dX9_get_52 rfl 2 rfl (Or.inr ⟨_, rfl⟩) ?_
            refine g_iload hC dX9_get_53 1 rfl ?_
            refine g_Vx (As := [.int (nI 1)]) (st := []) hC 1 dX9_get_55 rfl (hx0.M hM).1 (hx0.M hM).2 gX9_get_X9_failedLong rfl (by decide +kernel) ⟨Nat.le_of_ble_eq_true rfl, Nat.le_of_ble_eq_true rfl⟩ rfl (Nat.le_of_ble_eq_true rfl) ⟨(Nat.le_of_ble_eq_true rfl), (Nat.le_of_ble_eq_true rfl)⟩ (c2 := 0) (s2 := 0) rfl rfl (x_failedLong hx0 M hM 1) (fun v1 L1 f1 hp1 => ?_)
            obtain ⟨rfl, hx1⟩ := hp1
            show gW X vwCl 6 L1 f1 0 0 58 [(5, .null), (4, .int (nI 1)), (0, .ref M), (1, .int (nI pj)), (2, .int (nI 2)), (3, .int i)] [.long noL]
            have hc_p : castF S pj 2 = 1 := by unfold castF isO; rw [hk_p] <;> decide
            have hE : s_get S (nI pj) (nI 2) i = (noL, (aSc (thS S) 1 1)) := by
              unfold s_get
              rw [if_pos h4, if_pos h11, hpl_p, hpl_t, hc_p, if_pos (show 0 < 1 by decide)] <;> rfl
            exact g_lret hC hR dX9_get_58 ⟨b, congrArg (fun z => some (Value.long (Prod.fst z))) hE.symm, by rw [hE]; exact hx1, xG.rf⟩
          · exfalso; omega
        · have hw_p : wh S pj < S.1 4 := hI.wl hpj hk_p
          have hp0_p : plcF (thS S) b pj = some (b.1 0 (wh S pj)) := plc_k hpj hk_p (by decide)
          refine g_aald hC 5 rfl (hx0.Mp rfl).1 (hx0.Mp rfl).2 (pj) rfl (show pj < 10 by omega) (by decide) dX9_get_23 ?_
          refine g_val (w := .ref (b.1 0 (wh S pj))) (congrArg va_rf hp0_p) ?_
          refine g_iload_n hC dX9_get_24 rfl 2 rfl ?_
          refine g_iload_n hC dX9_get_25 rfl 3 rfl ?_
          refine g_S (As := [.ref (b.1 0 (wh S pj)), .int (nI 2), .int i]) (st := []) hC 3 dX9_get_26 gX9_get_X9_cellFault rfl (by decide +kernel) ⟨Nat.le_of_ble_eq_true rfl, Nat.le_of_ble_eq_true rfl⟩ rfl (Nat.le_of_ble_eq_true rfl) ⟨Nat.le_of_ble_eq_true rfl, Nat.le_of_ble_eq_true rfl⟩ (c2 := 0) (s2 := 0) rfl rfl (x_cellFault_B _ _ _ _ (hx0.isB hw_p rfl (hI.bl hw_p)) 2 (by decide) _) ?_
          refine g_istore (lv' := [(4, .int (nI 2)), (0, .ref M), (1, .int (nI pj)), (2, .int (nI 2)), (3, .int i)]) hC dX9_get_29 (by decide) rfl ?_
          refine g_aload_n hC dX9_get_31 rfl 1 rfl (Or.inr ⟨_, rfl⟩) ?_
          refine g_get hC (by decide +kernel) rfl (hx0.M hM).1 (hx0.M hM).2 0 (by decide) (by decide +kernel) (Or.inl rfl) rfl dX9_get_32 ?_
          refine g_iload_n hC dX9_get_35 rfl 2 rfl ?_
          refine g_aald hC 5 rfl (hx0.Mp rfl).1 (hx0.Mp rfl).2 (pj) rfl (show pj < 10 by omega) (by decide) dX9_get_36 ?_
          refine g_val (w := .ref (b.1 0 (wh S pj))) (congrArg va_rf hp0_p) ?_
          refine g_S (As := [.ref (b.1 0 (wh S pj))]) (st := []) hC 1 dX9_get_37 gX9_get_X9_asNumbers rfl (by decide +kernel) ⟨Nat.le_of_ble_eq_true rfl, Nat.le_of_ble_eq_true rfl⟩ rfl (Nat.le_of_ble_eq_true rfl) ⟨Nat.le_of_ble_eq_true rfl, Nat.le_of_ble_eq_true rfl⟩ (c2 := 0) (s2 := 0) rfl rfl (x_asNumbers (some (b.1 0 (wh S pj))) 1 (Or.inr ⟨_, 0, _, rfl, (hx0.B hw_p rfl), Or.inl ⟨rfl, rfl⟩⟩)) ?_
          refine g_astore (lv' := [(5, .ref (b.1 0 (wh S pj))), (4, .int (nI 2)), (0, .ref M), (1, .int (nI pj)), (2, .int (nI 2)), (3, .int i)]) hC dX9_get_40 (by decide) rfl (Or.inr ⟨_, rfl⟩) ?_
          refine g_iload hC dX9_get_42 1 rfl ?_
          refine g_ifN_ne (a := 2) (tgt := 52) hC dX9_get_44 (by decide) (by omega) (fun h44 => ?_) (fun h44 => ?_)
          · refine g_aload_n hC dX9_get_52 rfl 2 rfl (Or.inr ⟨_, rfl⟩) ?_
            refine g_iload hC dX9_get_53 1 rfl ?_
            refine g_Vx (As := [.int (nI 2)]) (st := []) hC 1 dX9_get_55 rfl (hx0.M hM).1 (hx0.M hM).2 gX9_get_X9_failedLong rfl (by decide +kernel) ⟨Nat.le_of_ble_eq_true rfl, Nat.le_of_ble_eq_true rfl⟩ rfl (Nat.le_of_ble_eq_true rfl) ⟨(Nat.le_of_ble_eq_true rfl), (Nat.le_of_ble_eq_true rfl)⟩ (c2 := 0) (s2 := 0) rfl rfl (x_failedLong hx0 M hM 2) (fun v1 L1 f1 hp1 => ?_)
            obtain ⟨rfl, hx1⟩ := hp1
            show gW X vwCl 6 L1 f1 0 0 58 [(5, .ref (b.1 0 (wh S pj))), (4, .int (nI 2)), (0, .ref M), (1, .int (nI pj)), (2, .int (nI 2)), (3, .int i)] [.long noL]
            have hc_p : castF S pj 2 = 2 := by unfold castF isO; rw [hk_p] <;> decide
            have hE : s_get S (nI pj) (nI 2) i = (noL, (aSc (thS S) 1 2)) := by
              unfold s_get
              rw [if_pos h4, if_pos h11, hpl_p, hpl_t, hc_p, if_pos (show 0 < 2 by decide)] <;> rfl
            exact g_lret hC hR dX9_get_58 ⟨b, congrArg (fun z => some (Value.long (Prod.fst z))) hE.symm, by rw [hE]; exact hx1, xG.rf⟩
          · exfalso; omega
        · have hw_p : wh S pj < S.1 7 := hI.ws hpj hk_p
          have hp0_p : plcF (thS S) b pj = some (b.1 2 (wh S pj)) := plc_k hpj hk_p (by decide)
          refine g_aald hC 5 rfl (hx0.Mp rfl).1 (hx0.Mp rfl).2 (pj) rfl (show pj < 10 by omega) (by decide) dX9_get_23 ?_
          refine g_val (w := .ref (b.1 2 (wh S pj))) (congrArg va_rf hp0_p) ?_
          refine g_iload_n hC dX9_get_24 rfl 2 rfl ?_
          refine g_iload_n hC dX9_get_25 rfl 3 rfl ?_
          refine g_S (As := [.ref (b.1 2 (wh S pj)), .int (nI 2), .int i]) (st := []) hC 3 dX9_get_26 gX9_get_X9_cellFault rfl (by decide +kernel) ⟨Nat.le_of_ble_eq_true rfl, Nat.le_of_ble_eq_true rfl⟩ rfl (Nat.le_of_ble_eq_true rfl) ⟨Nat.le_of_ble_eq_true rfl, Nat.le_of_ble_eq_true rfl⟩ (c2 := 0) (s2 := 0) rfl rfl (x_cellFault_S _ _ _ _ (hx0.isS hw_p rfl (hI.2.2.2.1 _ hw_p)) 2 (by decide) _) ?_
          have hl9 := (hI.2.2.2.1 _ hw_p)
          by_cases hin : 0 ≤ i ∧ i < nI (S.2.1 8 (wh S pj))
          · have hR_i := (in_R (show S.2.1 8 (wh S pj) < 2 ^ 30 by omega)).mp hin
            refine g_val (w := .int (nI 0)) (congrArg Value.int (if_pos hin)) ?_
            obtain ⟨ij, hij, rfl⟩ := (in_j (show S.2.1 8 (wh S pj) < 2 ^ 30 by omega)).mp hin
            have hpl_i : pl (nI ij) = ij := nI_clamp (by omega)
            refine g_istore (lv' := [(4, .int (nI 0)), (0, .ref M), (1, .int (nI pj)), (2, .int (nI 2)), (3, .int (nI ij))]) hC dX9_get_29 (by decide) rfl ?_
            refine g_aload_n hC dX9_get_31 rfl 1 rfl (Or.inr ⟨_, rfl⟩) ?_
            refine g_get hC (by decide +kernel) rfl (hx0.M hM).1 (hx0.M hM).2 0 (by decide) (by decide +kernel) (Or.inl rfl) rfl dX9_get_32 ?_
            refine g_iload_n hC dX9_get_35 rfl 2 rfl ?_
            refine g_aald hC 5 rfl (hx0.Mp rfl).1 (hx0.Mp rfl).2 (pj) rfl (show pj < 10 by omega) (by decide) dX9_get_36 ?_
            refine g_val (w := .ref (b.1 2 (wh S pj))) (congrArg va_rf hp0_p) ?_
            refine g_S (As := [.ref (b.1 2 (wh S pj))]) (st := []) hC 1 dX9_get_37 gX9_get_X9_asNumbers rfl (by decide +kernel) ⟨Nat.le_of_ble_eq_true rfl, Nat.le_of_ble_eq_true rfl⟩ rfl (Nat.le_of_ble_eq_true rfl) ⟨Nat.le_of_ble_eq_true rfl, Nat.le_of_ble_eq_true rfl⟩ (c2 := 0) (s2 := 0) rfl rfl (x_asNumbers (some (b.1 2 (wh S pj))) 2 (Or.inr ⟨_, 4, _, rfl, (hx0.G hw_p rfl), Or.inr (Or.inl ⟨rfl, rfl⟩)⟩)) ?_
            refine g_astore (lv' := [(5, .ref (b.1 2 (wh S pj))), (4, .int (nI 0)), (0, .ref M), (1, .int (nI pj)), (2, .int (nI 2)), (3, .int (nI ij))]) hC dX9_get_40 (by decide) rfl (Or.inr ⟨_, rfl⟩) ?_
            refine g_iload hC dX9_get_42 1 rfl ?_
            refine g_ifN_ne (a := 0) (tgt := 52) hC dX9_get_44 (by decide) (by omega) (fun h44 => ?_) (fun h44 => ?_)
            · exfalso; omega
            · refine g_aload hC dX9_get_47 0 rfl (Or.inr ⟨_, rfl⟩) ?_
              refine g_ifnonnull (o := some (b.1 2 (wh S pj))) (tgt := 59) hC dX9_get_49 (by decide) (fun a49 h49 => ?_) (fun h49 => ?_)
              · refine g_aload hC dX9_get_59 0 rfl (Or.inr ⟨_, rfl⟩) ?_
                refine g_iload_n hC dX9_get_61 rfl 5 rfl ?_
                refine g_A (As := [.int (nI ij)]) (st := []) hC 1 dX9_get_62 rfl (hx0.G hw_p rfl).1 (hx0.G hw_p rfl).2 gX9_get_X6_number_u95X6 rfl (gKK_D ⟨"KeptTerms$Numbers", "number", "(I)I"⟩ (by decide)) (by decide +kernel) ⟨Nat.le_of_ble_eq_true rfl, Nat.le_of_ble_eq_true rfl⟩ rfl (Nat.le_of_ble_eq_true rfl) ⟨Nat.le_of_ble_eq_true rfl, Nat.le_of_ble_eq_true rfl⟩ (c2 := 0) (s2 := 0) rfl rfl (x_6_number _ _ _ _ ij (show ij < S.2.1 8 (wh S pj) by omega) (hx0.isS hw_p rfl (hI.2.2.2.1 _ hw_p))) ?_
                refine g_val (w := .int (S.2.2 9 (16 * (wh S pj) + ij))) (congrArg Value.int (if_pos (show ij < S.2.1 8 (wh S pj) by omega))) ?_
                refine g_i2l hC dX9_get_65 rfl ?_
                have hc_p : castF S pj 2 = 0 := by unfold castF isO; rw [hk_p] <;> decide
                have hlg_p : longS S pj = S.2.1 8 (wh S pj) := by unfold longS; rw [hk_p] <;> rfl
                have hat_p : ∀ i, atS S pj i = S.2.2 9 (16 * wh S pj + i) := fun i => by unfold atS; rw [hk_p] <;> rfl
                have hE : s_get S (nI pj) (nI 2) (nI ij) = ((S.2.2 9 (16 * (wh S pj) + ij)).toInt64, (thS S)) := by
                  unfold s_get
                  rw [if_pos h4, if_pos h11, hpl_p, hpl_t, hc_p, if_neg (show ¬ 0 < 0 by decide), hlg_p, if_pos hR_i, hat_p, hpl_i] <;> rfl
                exact g_lret hC hR dX9_get_66 ⟨b, congrArg (fun z => some (Value.long (Prod.fst z))) hE.symm, by rw [hE]; exact hx0, xG.rf⟩
              · cases h49
          · have hR_i := fun z => hin ((in_R (show S.2.1 8 (wh S pj) < 2 ^ 30 by omega)).mpr z)
            refine g_val (w := .int (nI 3)) (congrArg Value.int (if_neg hin)) ?_
            refine g_istore (lv' := [(4, .int (nI 3)), (0, .ref M), (1, .int (nI pj)), (2, .int (nI 2)), (3, .int i)]) hC dX9_get_29 (by decide) rfl ?_
            refine g_aload_n hC dX9_get_31 rfl 1 rfl (Or.inr ⟨_, rfl⟩) ?_
            refine g_get hC (by decide +kernel) rfl (hx0.M hM).1 (hx0.M hM).2 0 (by decide) (by decide +kernel) (Or.inl rfl) rfl dX9_get_32 ?_
            refine g_iload_n hC dX9_get_35 rfl 2 rfl ?_
            refine g_aald hC 5 rfl (hx0.Mp rfl).1 (hx0.Mp rfl).2 (pj) rfl (show pj < 10 by omega) (by decide) dX9_get_36 ?_
            refine g_val (w := .ref (b.1 2 (wh S pj))) (congrArg va_rf hp0_p) ?_
            refine g_S (As := [.ref (b.1 2 (wh S pj))]) (st := []) hC 1 dX9_get_37 gX9_get_X9_asNumbers rfl (by decide +kernel) ⟨Nat.le_of_ble_eq_true rfl, Nat.le_of_ble_eq_true rfl⟩ rfl (Nat.le_of_ble_eq_true rfl) ⟨Nat.le_of_ble_eq_true rfl, Nat.le_of_ble_eq_true rfl⟩ (c2 := 0) (s2 := 0) rfl rfl (x_asNumbers (some (b.1 2 (wh S pj))) 2 (Or.inr ⟨_, 4, _, rfl, (hx0.G hw_p rfl), Or.inr (Or.inl ⟨rfl, rfl⟩)⟩)) ?_
            refine g_astore (lv' := [(5, .ref (b.1 2 (wh S pj))), (4, .int (nI 3)), (0, .ref M), (1, .int (nI pj)), (2, .int (nI 2)), (3, .int i)]) hC dX9_get_40 (by decide) rfl (Or.inr ⟨_, rfl⟩) ?_
            refine g_iload hC dX9_get_42 1 rfl ?_
            refine g_ifN_ne (a := 3) (tgt := 52) hC dX9_get_44 (by decide) (by omega) (fun h44 => ?_) (fun h44 => ?_)
            · refine g_aload_n hC dX9_get_52 rfl 2 rfl (Or.inr ⟨_, rfl⟩) ?_
              refine g_iload hC dX9_get_53 1 rfl ?_
              refine g_Vx (As := [.int (nI 3)]) (st := []) hC 1 dX9_get_55 rfl (hx0.M hM).1 (hx0.M hM).2 gX9_get_X9_failedLong rfl (by decide +kernel) ⟨Nat.le_of_ble_eq_true rfl, Nat.le_of_ble_eq_true rfl⟩ rfl (Nat.le_of_ble_eq_true rfl) ⟨(Nat.le_of_ble_eq_true rfl), (Nat.le_of_ble_eq_true rfl)⟩ (c2 := 0) (s2 := 0) rfl rfl (x_failedLong hx0 M hM 3) (fun v1 L1 f1 hp1 => ?_)
              obtain ⟨rfl, hx1⟩ := hp1
              show gW X vwCl 6 L1 f1 0 0 58 [(5, .ref (b.1 2 (wh S pj))), (4, .int (nI 3)), (0, .ref M), (1, .int (nI pj)), (2, .int (nI 2)), (3, .int i)] [.long noL]
              have hc_p : castF S pj 2 = 0 := by unfold castF isO; rw [hk_p] <;> decide
              have hlg_p : longS S pj = S.2.1 8 (wh S pj) := by unfold longS; rw [hk_p] <;> rfl
              have hE : s_get S (nI pj) (nI 2) i = (noL, (aSc (thS S) 1 3)) := by
                unfold s_get
                rw [if_pos h4, if_pos h11, hpl_p, hpl_t, hc_p, if_neg (show ¬ 0 < 0 by decide), hlg_p, if_neg hR_i] <;> rfl
              exact g_lret hC hR dX9_get_58 ⟨b, congrArg (fun z => some (Value.long (Prod.fst z))) hE.symm, by rw [hE]; exact hx1, xG.rf⟩
            · exfalso; omega
        · have hw_p : wh S pj < S.1 10 := hI.wr hpj hk_p
          have hp0_p : plcF (thS S) b pj = some (b.1 4 (wh S pj)) := plc_k hpj hk_p (by decide)
          refine g_aald hC 5 rfl (hx0.Mp rfl).1 (hx0.Mp rfl).2 (pj) rfl (show pj < 10 by omega) (by decide) dX9_get_23 ?_
          refine g_val (w := .ref (b.1 4 (wh S pj))) (congrArg va_rf hp0_p) ?_
          refine g_iload_n hC dX9_get_24 rfl 2 rfl ?_
          refine g_iload_n hC dX9_get_25 rfl 3 rfl ?_
          refine g_S (As := [.ref (b.1 4 (wh S pj)), .int (nI 2), .int i]) (st := []) hC 3 dX9_get_26 gX9_get_X9_cellFault rfl (by decide +kernel) ⟨Nat.le_of_ble_eq_true rfl, Nat.le_of_ble_eq_true rfl⟩ rfl (Nat.le_of_ble_eq_true rfl) ⟨Nat.le_of_ble_eq_true rfl, Nat.le_of_ble_eq_true rfl⟩ (c2 := 0) (s2 := 0) rfl rfl (x_cellFault_R _ _ _ _ (isR.B hx0 hw_p rfl (hI.2.2.2.2.1 _ hw_p)) 2 (by decide) _) ?_
          refine g_istore (lv' := [(4, .int (nI 2)), (0, .ref M), (1, .int (nI pj)), (2, .int (nI 2)), (3, .int i)]) hC dX9_get_29 (by decide) rfl ?_
          refine g_aload_n hC dX9_get_31 rfl 1 rfl (Or.inr ⟨_, rfl⟩) ?_
          refine g_get hC (by decide +kernel) rfl (hx0.M hM).1 (hx0.M hM).2 0 (by decide) (by decide +kernel) (Or.inl rfl) rfl dX9_get_32 ?_
          refine g_iload_n hC dX9_get_35 rfl 2 rfl ?_
          refine g_aald hC 5 rfl (hx0.Mp rfl).1 (hx0.Mp rfl).2 (pj) rfl (show pj < 10 by omega) (by decide) dX9_get_36 ?_
          refine g_val (w := .ref (b.1 4 (wh S pj))) (congrArg va_rf hp0_p) ?_
          refine g_S (As := [.ref (b.1 4 (wh S pj))]) (st := []) hC 1 dX9_get_37 gX9_get_X9_asNumbers rfl (by decide +kernel) ⟨Nat.le_of_ble_eq_true rfl, Nat.le_of_ble_eq_true rfl⟩ rfl (Nat.le_of_ble_eq_true rfl) ⟨Nat.le_of_ble_eq_true rfl, Nat.le_of_ble_eq_true rfl⟩ (c2 := 0) (s2 := 0) rfl rfl (x_asNumbers (some (b.1 4 (wh S pj))) 3 (Or.inr ⟨_, 3, _, rfl, (hx0.W hw_p rfl), Or.inr (Or.inr (Or.inl ⟨rfl, rfl⟩))⟩)) ?_
          refine g_astore (lv' := [(5, .null), (4, .int (nI 2)), (0, .ref M), (1, .int (nI pj)), (2, .int (nI 2)), (3, .int i)]) hC dX9_get_40 (by decide) rfl (Or.inl rfl) ?_
          refine g_iload hC dX9_get_42 1 rfl ?_
          refine g_ifN_ne (a := 2) (tgt := 52) hC dX9_get_44 (by decide) (by omega) (fun h44 => ?_) (fun h44 => ?_)
          · refine g_aload_n hC dX9_get_52 rfl 2 rfl (Or.inr ⟨_, rfl⟩) ?_
            refine g_iload hC dX9_get_53 1 rfl ?_
            refine g_Vx (As := [.int (nI 2)]) (st := []) hC 1 dX9_get_55 rfl (hx0.M hM).1 (hx0.M hM).2 gX9_get_X9_failedLong rfl (by decide +kernel) ⟨Nat.le_of_ble_eq_true rfl, Nat.le_of_ble_eq_true rfl⟩ rfl (Nat.le_of_ble_eq_true rfl) ⟨(Nat.le_of_ble_eq_true rfl), (Nat.le_of_ble_eq_true rfl)⟩ (c2 := 0) (s2 := 0) rfl rfl (x_failedLong hx0 M hM 2) (fun v1 L1 f1 hp1 => ?_)
            obtain ⟨rfl, hx1⟩ := hp1
            show gW X vwCl 6 L1 f1 0 0 58 [(5, .null), (4, .int (nI 2)), (0, .ref M), (1, .int (nI pj)), (2, .int (nI 2)), (3, .int i)] [.long noL]
            have hc_p : castF S pj 2 = 2 := by unfold castF isO; rw [hk_p] <;> decide
            have hE : s_get S (nI pj) (nI 2) i = (noL, (aSc (thS S) 1 2)) := by
              unfold s_get
              rw [if_pos h4, if_pos h11, hpl_p, hpl_t, hc_p, if_pos (show 0 < 2 by decide)] <;> rfl
            exact g_lret hC hR dX9_get_58 ⟨b, congrArg (fun z => some (Value.long (Prod.fst z))) hE.symm, by rw [hE]; exact hx1, xG.rf⟩
          · exfalso; omega
        · have hw_p : wh S pj < S.1 13 := hI.wt hpj (by omega)
          have hb_p : S.2.1 14 (wh S pj) = 0 := by have := ((hI.2.1 _ hpj).2.2.2.2.2 (by omega)).2; omega
          have hp0_p : plcF (thS S) b pj = some (b.1 6 (wh S pj)) := plc_k hpj hk_p (by decide)
          refine g_aald hC 5 rfl (hx0.Mp rfl).1 (hx0.Mp rfl).2 (pj) rfl (show pj < 10 by omega) (by decide) dX9_get_23 ?_
          refine g_val (w := .ref (b.1 6 (wh S pj))) (congrArg va_rf hp0_p) ?_
          refine g_iload_n hC dX9_get_24 rfl 2 rfl ?_
          refine g_iload_n hC dX9_get_25 rfl 3 rfl ?_
          refine g_S (As := [.ref (b.1 6 (wh S pj)), .int (nI 2), .int i]) (st := []) hC 3 dX9_get_26 gX9_get_X9_cellFault rfl (by decide +kernel) ⟨Nat.le_of_ble_eq_true rfl, Nat.le_of_ble_eq_true rfl⟩ rfl (Nat.le_of_ble_eq_true rfl) ⟨Nat.le_of_ble_eq_true rfl, Nat.le_of_ble_eq_true rfl⟩ (c2 := 0) (s2 := 0) rfl rfl (x_cellFault_T _ _ (hx0.T hw_p rfl hb_p) 2 (by decide) _) ?_
          refine g_istore (lv' := [(4, .int (nI 2)), (0, .ref M), (1, .int (nI pj)), (2, .int (nI 2)), (3, .int i)]) hC dX9_get_29 (by decide) rfl ?_
          refine g_aload_n hC dX9_get_31 rfl 1 rfl (Or.inr ⟨_, rfl⟩) ?_
          refine g_get hC (by decide +kernel) rfl (hx0.M hM).1 (hx0.M hM).2 0 (by decide) (by decide +kernel) (Or.inl rfl) rfl dX9_get_32 ?_
          refine g_iload_n hC dX9_get_35 rfl 2 rfl ?_
          refine g_aald hC 5 rfl (hx0.Mp rfl).1 (hx0.Mp rfl).2 (pj) rfl (show pj < 10 by omega) (by decide) dX9_get_36 ?_
          refine g_val (w := .ref (b.1 6 (wh S pj))) (congrArg va_rf hp0_p) ?_
          refine g_S (As := [.ref (b.1 6 (wh S pj))]) (st := []) hC 1 dX9_get_37 gX9_get_X9_asNumbers rfl (by decide +kernel) ⟨Nat.le_of_ble_eq_true rfl, Nat.le_of_ble_eq_true rfl⟩ rfl (Nat.le_of_ble_eq_true rfl) ⟨Nat.le_of_ble_eq_true rfl, Nat.le_of_ble_eq_true rfl⟩ (c2 := 0) (s2 := 0) rfl rfl (x_asNumbers (some (b.1 6 (wh S pj))) 4 (Or.inr ⟨_, 5, _, rfl, (hx0.T hw_p rfl hb_p), Or.inr (Or.inr (Or.inr (Or.inl ⟨rfl, rfl⟩)))⟩)) ?_
          refine g_astore (lv' := [(5, .null), (4, .int (nI 2)), (0, .ref M), (1, .int (nI pj)), (2, .int (nI 2)), (3, .int i)]) hC dX9_get_40 (by decide) rfl (Or.inl rfl) ?_
          refine g_iload hC dX9_get_42 1 rfl ?_
          refine g_ifN_ne (a := 2) (tgt := 52) hC dX9_get_44 (by decide) (by omega) (fun h44 => ?_) (fun h44 => ?_)
          · refine g_aload_n hC dX9_get_52 rfl 2 rfl (Or.inr ⟨_, rfl⟩) ?_
            refine g_iload hC dX9_get_53 1 rfl ?_
            refine g_Vx (As := [.int (nI 2)]) (st := []) hC 1 dX9_get_55 rfl (hx0.M hM).1 (hx0.M hM).2 gX9_get_X9_failedLong rfl (by decide +kernel) ⟨Nat.le_of_ble_eq_true rfl, Nat.le_of_ble_eq_true rfl⟩ rfl (Nat.le_of_ble_eq_true rfl) ⟨(Nat.le_of_ble_eq_true rfl), (Nat.le_of_ble_eq_true rfl)⟩ (c2 := 0) (s2 := 0) rfl rfl (x_failedLong hx0 M hM 2) (fun v1 L1 f1 hp1 => ?_)
            obtain ⟨rfl, hx1⟩ := hp1
            show gW X vwCl 6 L1 f1 0 0 58 [(5, .null), (4, .int (nI 2)), (0, .ref M), (1, .int (nI pj)), (2, .int (nI 2)), (3, .int i)] [.long noL]
            have hc_p : castF S pj 2 = 2 := by unfold castF isO; rw [hk_p] <;> decide
            have hE : s_get S (nI pj) (nI 2) i = (noL, (aSc (thS S) 1 2)) := by
              unfold s_get
              rw [if_pos h4, if_pos h11, hpl_p, hpl_t, hc_p, if_pos (show 0 < 2 by decide)] <;> rfl
            exact g_lret hC hR dX9_get_58 ⟨b, congrArg (fun z => some (Value.long (Prod.fst z))) hE.symm, by rw [hE]; exact hx1, xG.rf⟩
          · exfalso; omega
        · have hw_p : wh S pj < S.1 13 := hI.wt hpj (by omega)
          have hb_p : S.2.1 14 (wh S pj) ≠ 0 := by have := ((hI.2.1 _ hpj).2.2.2.2.2 (by omega)).2; omega
          have hp0_p : plcF (thS S) b pj = some (b.1 6 (wh S pj)) := plc_k hpj hk_p (by decide)
          refine g_aald hC 5 rfl (hx0.Mp rfl).1 (hx0.Mp rfl).2 (pj) rfl (show pj < 10 by omega) (by decide) dX9_get_23 ?_
          refine g_val (w := .ref (b.1 6 (wh S pj))) (congrArg va_rf hp0_p) ?_
          refine g_iload_n hC dX9_get_24 rfl 2 rfl ?_
          refine g_iload_n hC dX9_get_25 rfl 3 rfl ?_
          refine g_S (As := [.ref (b.1 6 (wh S pj)), .int (nI 2), .int i]) (st := []) hC 3 dX9_get_26 gX9_get_X9_cellFault rfl (by decide +kernel) ⟨Nat.le_of_ble_eq_true rfl, Nat.le_of_ble_eq_true rfl⟩ rfl (Nat.le_of_ble_eq_true rfl) ⟨Nat.le_of_ble_eq_true rfl, Nat.le_of_ble_eq_true rfl⟩ (c2 := 0) (s2 := 0) rfl rfl (x_cellFault_K _ _ (hx0.K hw_p rfl hb_p) 2 (by decide) _) ?_
          refine g_istore (lv' := [(4, .int (nI 2)), (0, .ref M), (1, .int (nI pj)), (2, .int (nI 2)), (3, .int i)]) hC dX9_get_29 (by decide) rfl ?_
          refine g_aload_n hC dX9_get_31 rfl 1 rfl (Or.inr ⟨_, rfl⟩) ?_
          refine g_get hC (by decide +kernel) rfl (hx0.M hM).1 (hx0.M hM).2 0 (by decide) (by decide +kernel) (Or.inl rfl) rfl dX9_get_32 ?_
          refine g_iload_n hC dX9_get_35 rfl 2 rfl ?_
          refine g_aald hC 5 rfl (hx0.Mp rfl).1 (hx0.Mp rfl).2 (pj) rfl (show pj < 10 by omega) (by decide) dX9_get_36 ?_
          refine g_val (w := .ref (b.1 6 (wh S pj))) (congrArg va_rf hp0_p) ?_
          refine g_S (As := [.ref (b.1 6 (wh S pj))]) (st := []) hC 1 dX9_get_37 gX9_get_X9_asNumbers rfl (by decide +kernel) ⟨Nat.le_of_ble_eq_true rfl, Nat.le_of_ble_eq_true rfl⟩ rfl (Nat.le_of_ble_eq_true rfl) ⟨Nat.le_of_ble_eq_true rfl, Nat.le_of_ble_eq_true rfl⟩ (c2 := 0) (s2 := 0) rfl rfl (x_asNumbers (some (b.1 6 (wh S pj))) 5 (Or.inr ⟨_, 1, _, rfl, (hx0.K hw_p rfl hb_p), Or.inr (Or.inr (Or.inr (Or.inr ⟨rfl, rfl⟩)))⟩)) ?_
          refine g_astore (lv' := [(5, .null), (4, .int (nI 2)), (0, .ref M), (1, .int (nI pj)), (2, .int (nI 2)), (3, .int i)]) hC dX9_get_40 (by decide) rfl (Or.inl rfl) ?_
          refine g_iload hC dX9_get_42 1 rfl ?_
          refine g_ifN_ne (a := 2) (tgt := 52) hC dX9_get_44 (by decide) (by omega) (fun h44 => ?_) (fun h44 => ?_)
          · refine g_aload_n hC dX9_get_52 rfl 2 rfl (Or.inr ⟨_, rfl⟩) ?_
            refine g_iload hC dX9_get_53 1 rfl ?_
            refine g_Vx (As := [.int (nI 2)]) (st := []) hC 1 dX9_get_55 rfl (hx0.M hM).1 (hx0.M hM).2 gX9_get_X9_failedLong rfl (by decide +kernel) ⟨Nat.le_of_ble_eq_true rfl, Nat.le_of_ble_eq_true rfl⟩ rfl (Nat.le_of_ble_eq_true rfl) ⟨(Nat.le_of_ble_eq_true rfl), (Nat.le_of_ble_eq_true rfl)⟩ (c2 := 0) (s2 := 0) rfl rfl (x_failedLong hx0 M hM 2) (fun v1 L1 f1 hp1 => ?_)
            obtain ⟨rfl, hx1⟩ := hp1
            show gW X vwCl 6 L1 f1 0 0 58 [(5, .null), (4, .int (nI 2)), (0, .ref M), (1, .int (nI pj)), (2, .int (nI 2)), (3, .int i)] [.long noL]
            have hc_p : castF S pj 2 = 2 := by unfold castF isO; rw [hk_p] <;> decide
            have hE : s_get S (nI pj) (nI 2) i = (noL, (aSc (thS S) 1 2)) := by
              unfold s_get
              rw [if_pos h4, if_pos h11, hpl_p, hpl_t, hc_p, if_pos (show 0 < 2 by decide)] <;> rfl
            exact g_lret hC hR dX9_get_58 ⟨b, congrArg (fun z => some (Value.long (Prod.fst z))) hE.symm, by rw [hE]; exact hx1, xG.rf⟩
          · exfalso; omega
    · refine g_ldc2 (v := -9223372036854775808) hC (by decide +kernel) dX9_get_14 ?_
      have hE : s_get S (nI pj) t i = (-9223372036854775808, (thS S)) := by
        unfold s_get
        rw [if_pos h4, if_neg h11] <;> rfl
      exact g_lret hC hR dX9_get_17 ⟨b, congrArg (fun z => some (Value.long (Prod.fst z))) hE.symm, by rw [hE]; exact hx0, xG.rf⟩
set_option maxRecDepth 20000 in
set_option maxHeartbeats 4000000 in
theorem y_set {S : aS} {b : xB} (hx : xR cy S b L f) (hI : aI S) (M : Nat) (hM : b.1 9 0 = M) (p t i v : Int32) : gCt l D vwCl (gKK D cy adK adV) yX9_set wsX9_set { frames := 5, cells := 0, slots := 0, locals := 106 } [.ref M, .int p, .int t, .int i, .int v] L f (xP cy S b (s_set S p t i v).2 (fun _ => some (.int (s_set S p t i v).1))) := by
  refine gCt.of gKK_ok (by decide) rfl rfl (fun X hC hR hnm => ?_)
  have hC : gC X l _ D vwCl (cyT cy) (gKK D cy adK adV) cX9_set 7 wsX9_set RX9 := hC
  have hx0 := hx.th0
  have hI0 := hI.th
  show gW X vwCl 7 L f 0 0 0 [(0, .ref M), (1, .int p), (2, .int t), (3, .int i), (4, .int v)] []
  refine g_iload_n hC dX9_set_0 rfl 1 rfl ?_
  refine g_S (As := [.int p]) (st := []) hC 1 dX9_set_1 gX9_set_X9_isPlace rfl (by decide +kernel) ⟨Nat.le_of_ble_eq_true rfl, Nat.le_of_ble_eq_true rfl⟩ rfl (Nat.le_of_ble_eq_true rfl) ⟨Nat.le_of_ble_eq_true rfl, Nat.le_of_ble_eq_true rfl⟩ (c2 := 0) (s2 := 0) rfl rfl (x_isPlace _) ?_
  refine g_ifB_ne (P := isP p) (tgt := 9) hC dX9_set_4 (by decide) (fun h4 => ?_) (fun h4 => ?_)
  · obtain ⟨pj, hpj, rfl⟩ := isP_j h4
    have hpl_p : pl (nI pj) = pj := nI_clamp (by omega)
    refine g_iload_n hC dX9_set_9 rfl 2 rfl ?_
    refine g_S (As := [.int t]) (st := []) hC 1 dX9_set_10 gX9_set_X9_isNumbersType rfl (by decide +kernel) ⟨Nat.le_of_ble_eq_true rfl, Nat.le_of_ble_eq_true rfl⟩ rfl (Nat.le_of_ble_eq_true rfl) ⟨Nat.le_of_ble_eq_true rfl, Nat.le_of_ble_eq_true rfl⟩ (c2 := 0) (s2 := 0) rfl rfl (x_isNumbersType _) ?_
    refine g_ifB_ne (P := nI 1 ≤ t ∧ t ≤ nI 2) (tgt := 19) hC dX9_set_13 (by decide) (fun h13 => ?_) (fun h13 => ?_)
    · obtain ⟨tj, ht1, ht2, rfl⟩ := ty_j (lo := 1) (hi := 2) (by decide) h13 (by decide)
      rcases (show tj = 1 ∨ tj = 2 by omega) with rfl | rfl
      · have hpl_t : pl (nI 1) = 1 := by decide
        refine g_aload_n hC dX9_set_19 rfl 0 rfl (Or.inr ⟨_, rfl⟩) ?_
        refine g_get hC (by decide +kernel) rfl (hx0.M hM).1 (hx0.M hM).2 0 (by decide) (by decide +kernel) (Or.inl rfl) rfl dX9_set_20 ?_
        refine g_iload_n hC dX9_set_23 rfl 1 rfl ?_
        have h5_p := hI.k5 hpj
        rcases (show kd S pj = 0 ∨ kd S pj = 1 ∨ kd S pj = 2 ∨ kd S pj = 3 ∨ kd S pj = 4 ∨ kd S pj = 5 by omega) with hk_p | hk_p | hk_p | hk_p | hk_p | hk_p
        · have hp0_p : plcF (thS S) b pj = none := plc_0 hpj hk_p
          refine g_aald hC 5 rfl (hx0.Mp rfl).1 (hx0.Mp rfl).2 (pj) rfl (show pj < 10 by omega) (by decide) dX9_set_24 ?_
          refine g_val (w := .null) (congrArg va_rf hp0_p) ?_
          refine g_iload_n hC dX9_set_25 rfl 2 rfl ?_
          refine g_iload_n hC dX9_set_26 rfl 3 rfl ?_
          refine g_S (As := [.null, .int (nI 1), .int i]) (st := []) hC 3 dX9_set_27 gX9_set_X9_cellFault rfl (by decide +kernel) ⟨Nat.le_of_ble_eq_true rfl, Nat.le_of_ble_eq_true rfl⟩ rfl (Nat.le_of_ble_eq_true rfl) ⟨Nat.le_of_ble_eq_true rfl, Nat.le_of_ble_eq_true rfl⟩ (c2 := 0) (s2 := 0) rfl rfl (x_cellFault_0 1 (by decide) _) ?_
          refine g_istore (lv' := [(5, .int (nI 1)), (0, .ref M), (1, .int (nI pj)), (2, .int (nI 1)), (3, .int i), (4, .int v)]) hC dX9_set_30 (by decide) rfl ?_
          refine g_aload_n hC dX9_set_32 rfl 1 rfl (Or.inr ⟨_, rfl⟩) ?_
          refine g_get hC (by decide +kernel) rfl (hx0.M hM).1 (hx0.M hM).2 0 (by decide) (by decide +kernel) (Or.inl rfl) rfl dX9_set_33 ?_
          refine g_iload_n hC dX9_set_36 rfl 2 rfl ?_
          refine g_aald hC 5 rfl (hx0.Mp rfl).1 (hx0.Mp rfl).2 (pj) rfl (show pj < 10 by omega) (by decide) dX9_set_37 ?_
          refine g_val (w := .null) (congrArg va_rf hp0_p) ?_
          refine g_S (As := [.null]) (st := []) hC 1 dX9_set_38 gX9_set_X9_asNumbers rfl (by decide +kernel) ⟨Nat.le_of_ble_eq_true rfl, Nat.le_of_ble_eq_true rfl⟩ rfl (Nat.le_of_ble_eq_true rfl) ⟨Nat.le_of_ble_eq_true rfl, Nat.le_of_ble_eq_true rfl⟩ (c2 := 0) (s2 := 0) rfl rfl (x_asNumbers none 0 (Or.inl ⟨rfl, rfl⟩)) ?_
          refine g_astore (lv' := [(6, .null), (5, .int (nI 1)), (0, .ref M), (1, .int (nI pj)), (2, .int (nI 1)), (3, .int i), (4, .int v)]) hC dX9_set_41 (by decide) rfl (Or.inl rfl) ?_
          refine g_iload hC dX9_set_43 1 rfl ?_
          refine g_ifN_ne (a := 1) (tgt := 53) hC dX9_set_45 (by decide) (by omega) (fun h45 => ?_) (fun h45 => ?_)
          · refine g_aload_n hC dX9_set_53 rfl 2 rfl (Or.inr ⟨_, rfl⟩) ?_
            refine g_iload hC dX9_set_54 1 rfl ?_
            refine g_Vx (As := [.int (nI 1)]) (st := []) hC 1 dX9_set_56 rfl (hx0.M hM).1 (hx0.M hM).2 gX9_set_X9_failed rfl (by decide +kernel) ⟨Nat.le_of_ble_eq_true rfl, Nat.le_of_ble_eq_true rfl⟩ rfl (Nat.le_of_ble_eq_true rfl) ⟨(Nat.le_of_ble_eq_true rfl), (Nat.le_of_ble_eq_true rfl)⟩ (c2 := 0) (s2 := 0) rfl rfl (x_failed hx0 M hM 1) (fun v1 L1 f1 hp1 => ?_)
            obtain ⟨rfl, hx1⟩ := hp1
            show gW X vwCl 7 L1 f1 0 0 59 [(6, .null), (5, .int (nI 1)), (0, .ref M), (1, .int (nI pj)), (2, .int (nI 1)), (3, .int i), (4, .int v)] [.int (fA 1)]
            have hc_p : castF S pj 1 = 1 := by unfold castF isO; rw [hk_p] <;> decide
            have hE : s_set S (nI pj) (nI 1) i v = (fA 1, (aSc (thS S) 1 1)) := by
              unfold s_set
              rw [if_pos h4, if_pos h13, hpl_p, hpl_t, hc_p, if_pos (show 0 < 1 by decide)] <;> rfl
            exact g_iret hC hR dX9_set_59 ⟨b, congrArg (fun z => some (Value.int (Prod.fst z))) hE.symm, by rw [hE]; exact hx1, xG.rf⟩
          · exfalso; omega
        · have hw_p : wh S pj < S.1 4 := hI.wl hpj hk_p
          have hp0_p : plcF (thS S) b pj = some (b.1 0 (wh S pj)) := plc_k hpj hk_p (by decide)
          refine g_aald hC 5 rfl (hx0.Mp rfl).1 (hx0.Mp rfl).2 (pj) rfl (show pj < 10 by omega) (by decide) dX9_set_24 ?_
          refine g_val (w := .ref (b.1 0 (wh S pj))) (congrArg va_rf hp0_p) ?_
          refine g_iload_n hC dX9_set_25 rfl 2 rfl ?_
          refine g_iload_n hC dX9_set_26 rfl 3 rfl ?_
          refine g_S (As := [.ref (b.1 0 (wh S pj)), .int (nI 1), .int i]) (st := []) hC 3 dX9_set_27 gX9_set_X9_cellFault rfl (by decide +kernel) ⟨Nat.le_of_ble_eq_true rfl, Nat.le_of_ble_eq_true rfl⟩ rfl (Nat.le_of_ble_eq_true rfl) ⟨Nat.le_of_ble_eq_true rfl, Nat.le_of_ble_eq_true rfl⟩ (c2 := 0) (s2 := 0) rfl rfl (x_cellFault_B _ _ _ _ (hx0.isB hw_p rfl (hI.bl hw_p)) 1 (by decide) _) ?_
          have hl9 := (hI.bl hw_p)
          by_cases hin : 0 ≤ i ∧ i < nI (S.2.1 5 (wh S pj))
          · have hR_i := (in_R (show S.2.1 5 (wh S pj) < 2 ^ 30 by omega)).mp hin
            refine g_val (w := .int (nI 0)) (congrArg Value.int (if_pos hin)) ?_
            obtain ⟨ij, hij, rfl⟩ := (in_j (show S.2.1 5 (wh S pj) < 2 ^ 30 by omega)).mp hin
            have hpl_i : pl (nI ij) = ij := nI_clamp (by omega)
            refine g_istore (lv' := [(5, .int (nI 0)), (0, .ref M), (1, .int (nI pj)), (2, .int (nI 1)), (3, .int (nI ij)), (4, .int v)]) hC dX9_set_30 (by decide) rfl ?_
            refine g_aload_n hC dX9_set_32 rfl 1 rfl (Or.inr ⟨_, rfl⟩) ?_
            refine g_get hC (by decide +kernel) rfl (hx0.M hM).1 (hx0.M hM).2 0 (by decide) (by decide +kernel) (Or.inl rfl) rfl dX9_set_33 ?_
            refine g_iload_n hC dX9_set_36 rfl 2 rfl ?_
            refine g_aald hC 5 rfl (hx0.Mp rfl).1 (hx0.Mp rfl).2 (pj) rfl (show pj < 10 by omega) (by decide) dX9_set_37 ?_
            refine g_val (w := .ref (b.1 0 (wh S pj))) (congrArg va_rf hp0_p) ?_
            refine g_S (As := [.ref (b.1 0 (wh S pj))]) (st := []) hC 1 dX9_set_38 gX9_set_X9_asNumbers rfl (by decide +kernel) ⟨Nat.le_of_ble_eq_true rfl, Nat.le_of_ble_eq_true rfl⟩ rfl (Nat.le_of_ble_eq_true rfl) ⟨Nat.le_of_ble_eq_true rfl, Nat.le_of_ble_eq_true rfl⟩ (c2 := 0) (s2 := 0) rfl rfl (x_asNumbers (some (b.1 0 (wh S pj))) 1 (Or.inr ⟨_, 0, _, rfl, (hx0.B hw_p rfl), Or.inl ⟨rfl, rfl⟩⟩)) ?_
            refine g_astore (lv' := [(6, .ref (b.1 0 (wh S pj))), (5, .int (nI 0)), (0, .ref M), (1, .int (nI pj)), (2, .int (nI 1)), (3, .int (nI ij)), (4, .int v)]) hC dX9_set_41 (by decide) rfl (Or.inr ⟨_, rfl⟩) ?_
            refine g_iload hC dX9_set_43 1 rfl ?_
            refine g_ifN_ne (a := 0) (tgt := 53) hC dX9_set_45 (by decide) (by omega) (fun h45 => ?_) (fun h45 => ?_)
            · exfalso; omega
            · refine g_aload hC dX9_set_48 0 rfl (Or.inr ⟨_, rfl⟩) ?_
              refine g_ifnonnull (o := some (b.1 0 (wh S pj))) (tgt := 60) hC dX9_set_50 (by decide) (fun a50 h50 => ?_) (fun h50 => ?_)
              · refine g_aload hC dX9_set_60 0 rfl (Or.inr ⟨_, rfl⟩) ?_
                refine g_iload_n hC dX9_set_62 rfl 5 rfl ?_
                refine g_iload hC dX9_set_63 6 rfl ?_
                refine g_Ax (As := [.int (nI ij), .int v]) (st := []) hC 2 dX9_set_65 rfl (hx0.B hw_p rfl).1 (hx0.B hw_p rfl).2 gX9_set_X0_putNumber_u100X0 rfl (gKK_D ⟨"KeptTerms$Numbers", "putNumber", "(II)V"⟩ (by decide)) (by decide +kernel) ⟨Nat.le_of_ble_eq_true rfl, Nat.le_of_ble_eq_true rfl⟩ rfl (Nat.le_of_ble_eq_true rfl) ⟨(Nat.le_of_ble_eq_true rfl), (Nat.le_of_ble_eq_true rfl)⟩ (c2 := 0) (s2 := 0) rfl rfl (x_putNumber_B (S := thS S) hx0 hI.2.2.1 _ _ hw_p rfl ij (show ij < S.2.1 5 (wh S pj) by omega) v) (fun v1 L1 f1 hp1 => ?_)
                obtain ⟨rfl, hx1⟩ := hp1
                show gW X vwCl 7 L1 f1 0 0 68 [(6, .ref (b.1 0 (wh S pj))), (5, .int (nI 0)), (0, .ref M), (1, .int (nI pj)), (2, .int (nI 1)), (3, .int (nI ij)), (4, .int v)] []
                refine g_iconst hC dX9_set_68 (v := nI 1) (by decide) ?_
                have hc_p : castF S pj 1 = 0 := by unfold castF isO; rw [hk_p] <;> decide
                have hlg_p : longS S pj = S.2.1 5 (wh S pj) := by unfold longS; rw [hk_p] <;> rfl
                have hE : s_set S (nI pj) (nI 1) (nI ij) v = (nI 1, aW (thS S) 6 (16 * (wh S pj) + ij) v.toInt8.toInt32) := by
                  unfold s_set
                  rw [if_pos h4, if_pos h13, hpl_p, hpl_t, hc_p, if_neg (show ¬ 0 < 0 by decide), hlg_p, if_pos hR_i, if_pos rfl, hpl_i] <;> rfl
                exact g_iret hC hR dX9_set_69 ⟨b, congrArg (fun z => some (Value.int (Prod.fst z))) hE.symm, by rw [hE]; exact hx1, xG.rf⟩
              · cases h50
          · have hR_i := fun z => hin ((in_R (show S.2.1 5 (wh S pj) < 2 ^ 30 by omega)).mpr z)
            refine g_val (w := .int (nI 3)) (congrArg Value.int (if_neg hin)) ?_
            refine g_istore (lv' := [(5, .int (nI 3)), (0, .ref M), (1, .int (nI pj)), (2, .int (nI 1)), (3, .int i), (4, .int v)]) hC dX9_set_30 (by decide) rfl ?_
            refine g_aload_n hC dX9_set_32 rfl 1 rfl (Or.inr ⟨_, rfl⟩) ?_
            refine g_get hC (by decide +kernel) rfl (hx0.M hM).1 (hx0.M hM).2 0 (by decide) (by decide +kernel) (Or.inl rfl) rfl dX9_set_33 ?_
            refine g_iload_n hC dX9_set_36 rfl 2 rfl ?_
            refine g_aald hC 5 rfl (hx0.Mp rfl).1 (hx0.Mp rfl).2 (pj) rfl (show pj < 10 by omega) (by decide) dX9_set_37 ?_
            refine g_val (w := .ref (b.1 0 (wh S pj))) (congrArg va_rf hp0_p) ?_
            refine g_S (As := [.ref (b.1 0 (wh S pj))]) (st := []) hC 1 dX9_set_38 gX9_set_X9_asNumbers rfl (by decide +kernel) ⟨Nat.le_of_ble_eq_true rfl, Nat.le_of_ble_eq_true rfl⟩ rfl (Nat.le_of_ble_eq_true rfl) ⟨Nat.le_of_ble_eq_true rfl, Nat.le_of_ble_eq_true rfl⟩ (c2 := 0) (s2 := 0) rfl rfl (x_asNumbers (some (b.1 0 (wh S pj))) 1 (Or.inr ⟨_, 0, _, rfl, (hx0.B hw_p rfl), Or.inl ⟨rfl, rfl⟩⟩)) ?_
            refine g_astore (lv' := [(6, .ref (b.1 0 (wh S pj))), (5, .int (nI 3)), (0, .ref M), (1, .int (nI pj)), (2, .int (nI 1)), (3, .int i), (4, .int v)]) hC dX9_set_41 (by decide) rfl (Or.inr ⟨_, rfl⟩) ?_
            refine g_iload hC dX9_set_43 1 rfl ?_
            refine g_ifN_ne (a := 3) (tgt := 53) hC dX9_set_45 (by decide) (by omega) (fun h45 => ?_) (fun h45 => ?_)
            · refine g_aload_n hC dX9_set_53 rfl 2 rfl (Or.inr ⟨_, rfl⟩) ?_
              refine g_iload hC dX9_set_54 1 rfl ?_
              refine g_Vx (As := [.int (nI 3)]) (st := []) hC 1 dX9_set_56 rfl (hx0.M hM).1 (hx0.M hM).2 gX9_set_X9_failed rfl (by decide +kernel) ⟨Nat.le_of_ble_eq_true rfl, Nat.le_of_ble_eq_true rfl⟩ rfl (Nat.le_of_ble_eq_true rfl) ⟨(Nat.le_of_ble_eq_true rfl), (Nat.le_of_ble_eq_true rfl)⟩ (c2 := 0) (s2 := 0) rfl rfl (x_failed hx0 M hM 3) (fun v1 L1 f1 hp1 => ?_)
              obtain ⟨rfl, hx1⟩ := hp1
              show gW X vwCl 7 L1 f1 0 0 59 [(6, .ref (b.1 0 (wh S pj))), (5, .int (nI 3)), (0, .ref M), (1, .int (nI pj)), (2, .int (nI 1)), (3, .int i), (4, .int v)] [.int (fA 3)]
              have hc_p : castF S pj 1 = 0 := by unfold castF isO; rw [hk_p] <;> decide
              have hlg_p : longS S pj = S.2.1 5 (wh S pj) := by unfold longS; rw [hk_p] <;> rfl
              have hE : s_set S (nI pj) (nI 1) i v = (fA 3, (aSc (thS S) 1 3)) := by
                unfold s_set
                rw [if_pos h4, if_pos h13, hpl_p, hpl_t, hc_p, if_neg (show ¬ 0 < 0 by decide), hlg_p, if_neg hR_i] <;> rfl
              exact g_iret hC hR dX9_set_59 ⟨b, congrArg (fun z => some (Value.int (Prod.fst z))) hE.symm, by rw [hE]; exact hx1, xG.rf⟩
            · exfalso; omega
        · have hw_p : wh S pj < S.1 7 := hI.ws hpj hk_p
          have hp0_p : plcF (thS S) b pj = some (b.1 2 (wh S pj)) := plc_k hpj hk_p (by decide)
          refine g_aald hC 5 rfl (hx0.Mp rfl).1 (hx0.Mp rfl).2 (pj) rfl (show pj < 10 by omega) (by decide) dX9_set_24 ?_
          refine g_val (w := .ref (b.1 2 (wh S pj))) (congrArg va_rf hp0_p) ?_
          refine g_iload_n hC dX9_set_25 rfl 2 rfl ?_
          refine g_iload_n hC dX9_set_26 rfl 3 rfl ?_
          refine g_S (As := [.ref (b.1 2 (wh S pj)), .int (nI 1), .int i]) (st := []) hC 3 dX9_set_27 gX9_set_X9_cellFault rfl (by decide +kernel) ⟨Nat.le_of_ble_eq_true rfl, Nat.le_of_ble_eq_true rfl⟩ rfl (Nat.le_of_ble_eq_true rfl) ⟨Nat.le_of_ble_eq_true rfl, Nat.le_of_ble_eq_true rfl⟩ (c2 := 0) (s2 := 0) rfl rfl (x_cellFault_S _ _ _ _ (hx0.isS hw_p rfl (hI.2.2.2.1 _ hw_p)) 1 (by decide) _) ?_
          refine g_istore (lv' := [(5, .int (nI 2)), (0, .ref M), (1, .int (nI pj)), (2, .int (nI 1)), (3, .int i), (4, .int v)]) hC dX9_set_30 (by decide) rfl ?_
          refine g_aload_n hC dX9_set_32 rfl 1 rfl (Or.inr ⟨_, rfl⟩) ?_
          refine g_get hC (by decide +kernel) rfl (hx0.M hM).1 (hx0.M hM).2 0 (by decide) (by decide +kernel) (Or.inl rfl) rfl dX9_set_33 ?_
          refine g_iload_n hC dX9_set_36 rfl 2 rfl ?_
          refine g_aald hC 5 rfl (hx0.Mp rfl).1 (hx0.Mp rfl).2 (pj) rfl (show pj < 10 by omega) (by decide) dX9_set_37 ?_
          refine g_val (w := .ref (b.1 2 (wh S pj))) (congrArg va_rf hp0_p) ?_
          refine g_S (As := [.ref (b.1 2 (wh S pj))]) (st := []) hC 1 dX9_set_38 gX9_set_X9_asNumbers rfl (by decide +kernel) ⟨Nat.le_of_ble_eq_true rfl, Nat.le_of_ble_eq_true rfl⟩ rfl (Nat.le_of_ble_eq_true rfl) ⟨Nat.le_of_ble_eq_true rfl, Nat.le_of_ble_eq_true rfl⟩ (c2 := 0) (s2 := 0) rfl rfl (x_asNumbers (some (b.1 2 (wh S pj))) 2 (Or.inr ⟨_, 4, _, rfl, (hx0.G hw_p rfl), Or.inr (Or.inl ⟨rfl, rfl⟩)⟩)) ?_
          refine g_astore (lv' := [(6, .ref (b.1 2 (wh S pj))), (5, .int (nI 2)), (0, .ref M), (1, .int (nI pj)), (2, .int (nI 1)), (3, .int i), (4, .int v)]) hC dX9_set_41 (by decide) rfl (Or.inr ⟨_, rfl⟩) ?_
          refine g_iload hC dX9_set_43 1 rfl ?_
          refine g_ifN_ne (a := 2) (tgt := 53) hC dX9_set_45 (by decide) (by omega) (fun h45 => ?_) (fun h45 => ?_)
          · refine g_aload_n hC dX9_set_53 rfl 2 rfl (Or.inr ⟨_, rfl⟩) ?_
            refine g_iload hC dX9_set_54 1 rfl ?_
            refine g_Vx (As := [.int (nI 2)]) (st := []) hC 1 dX9_set_56 rfl (hx0.M hM).1 (hx0.M hM).2 gX9_set_X9_failed rfl (by decide +kernel) ⟨Nat.le_of_ble_eq_true rfl, Nat.le_of_ble_eq_true rfl⟩ rfl (Nat.le_of_ble_eq_true rfl) ⟨(Nat.le_of_ble_eq_true rfl), (Nat.le_of_ble_eq_true rfl)⟩ (c2 := 0) (s2 := 0) rfl rfl (x_failed hx0 M hM 2) (fun v1 L1 f1 hp1 => ?_)
            obtain ⟨rfl, hx1⟩ := hp1
            show gW X vwCl 7 L1 f1 0 0 59 [(6, .ref (b.1 2 (wh S pj))), (5, .int (nI 2)), (0, .ref M), (1, .int (nI pj)), (2, .int (nI 1)), (3, .int i), (4, .int v)] [.int (fA 2)]
            have hc_p : castF S pj 1 = 2 := by unfold castF isO; rw [hk_p] <;> decide
            have hE : s_set S (nI pj) (nI 1) i v = (fA 2, (aSc (thS S) 1 2)) := by
              unfold s_set
              rw [if_pos h4, if_pos h13, hpl_p, hpl_t, hc_p, if_pos (show 0 < 2 by decide)] <;> rfl
            exact g_iret hC hR dX9_set_59 ⟨b, congrArg (fun z => some (Value.int (Prod.fst z))) hE.symm, by rw [hE]; exact hx1, xG.rf⟩
          · exfalso; omega
        · have hw_p : wh S pj < S.1 10 := hI.wr hpj hk_p
          have hp0_p : plcF (thS S) b pj = some (b.1 4 (wh S pj)) := plc_k hpj hk_p (by decide)
          refine g_aald hC 5 rfl (hx0.Mp rfl).1 (hx0.Mp rfl).2 (pj) rfl (show pj < 10 by omega) (by decide) dX9_set_24 ?_
          refine g_val (w := .ref (b.1 4 (wh S pj))) (congrArg va_rf hp0_p) ?_
          refine g_iload_n hC dX9_set_25 rfl 2 rfl ?_
          refine g_iload_n hC dX9_set_26 rfl 3 rfl ?_
          refine g_S (As := [.ref (b.1 4 (wh S pj)), .int (nI 1), .int i]) (st := []) hC 3 dX9_set_27 gX9_set_X9_cellFault rfl (by decide +kernel) ⟨Nat.le_of_ble_eq_true rfl, Nat.le_of_ble_eq_true rfl⟩ rfl (Nat.le_of_ble_eq_true rfl) ⟨Nat.le_of_ble_eq_true rfl, Nat.le_of_ble_eq_true rfl⟩ (c2 := 0) (s2 := 0) rfl rfl (x_cellFault_R _ _ _ _ (isR.B hx0 hw_p rfl (hI.2.2.2.2.1 _ hw_p)) 1 (by decide) _) ?_
          refine g_istore (lv' := [(5, .int (nI 2)), (0, .ref M), (1, .int (nI pj)), (2, .int (nI 1)), (3, .int i), (4, .int v)]) hC dX9_set_30 (by decide) rfl ?_
          refine g_aload_n hC dX9_set_32 rfl 1 rfl (Or.inr ⟨_, rfl⟩) ?_
          refine g_get hC (by decide +kernel) rfl (hx0.M hM).1 (hx0.M hM).2 0 (by decide) (by decide +kernel) (Or.inl rfl) rfl dX9_set_33 ?_
          refine g_iload_n hC dX9_set_36 rfl 2 rfl ?_
          refine g_aald hC 5 rfl (hx0.Mp rfl).1 (hx0.Mp rfl).2 (pj) rfl (show pj < 10 by omega) (by decide) dX9_set_37 ?_
          refine g_val (w := .ref (b.1 4 (wh S pj))) (congrArg va_rf hp0_p) ?_
          refine g_S (As := [.ref (b.1 4 (wh S pj))]) (st := []) hC 1 dX9_set_38 gX9_set_X9_asNumbers rfl (by decide +kernel) ⟨Nat.le_of_ble_eq_true rfl, Nat.le_of_ble_eq_true rfl⟩ rfl (Nat.le_of_ble_eq_true rfl) ⟨Nat.le_of_ble_eq_true rfl, Nat.le_of_ble_eq_true rfl⟩ (c2 := 0) (s2 := 0) rfl rfl (x_asNumbers (some (b.1 4 (wh S pj))) 3 (Or.inr ⟨_, 3, _, rfl, (hx0.W hw_p rfl), Or.inr (Or.inr (Or.inl ⟨rfl, rfl⟩))⟩)) ?_
          refine g_astore (lv' := [(6, .null), (5, .int (nI 2)), (0, .ref M), (1, .int (nI pj)), (2, .int (nI 1)), (3, .int i), (4, .int v)]) hC dX9_set_41 (by decide) rfl (Or.inl rfl) ?_
          refine g_iload hC dX9_set_43 1 rfl ?_
          refine g_ifN_ne (a := 2) (tgt := 53) hC dX9_set_45 (by decide) (by omega) (fun h45 => ?_) (fun h45 => ?_)
          · refine g_aload_n hC dX9_set_53 rfl 2 rfl (Or.inr ⟨_, rfl⟩) ?_
            refine g_iload hC dX9_set_54 1 rfl ?_
            refine g_Vx (As := [.int (nI 2)]) (st := []) hC 1 dX9_set_56 rfl (hx0.M hM).1 (hx0.M hM).2 gX9_set_X9_failed rfl (by decide +kernel) ⟨Nat.le_of_ble_eq_true rfl, Nat.le_of_ble_eq_true rfl⟩ rfl (Nat.le_of_ble_eq_true rfl) ⟨(Nat.le_of_ble_eq_true rfl), (Nat.le_of_ble_eq_true rfl)⟩ (c2 := 0) (s2 := 0) rfl rfl (x_failed hx0 M hM 2) (fun v1 L1 f1 hp1 => ?_)
            obtain ⟨rfl, hx1⟩ := hp1
            show gW X vwCl 7 L1 f1 0 0 59 [(6, .null), (5, .int (nI 2)), (0, .ref M), (1, .int (nI pj)), (2, .int (nI 1)), (3, .int i), (4, .int v)] [.int (fA 2)]
            have hc_p : castF S pj 1 = 2 := by unfold castF isO; rw [hk_p] <;> decide
            have hE : s_set S (nI pj) (nI 1) i v = (fA 2, (aSc (thS S) 1 2)) := by
              unfold s_set
              rw [if_pos h4, if_pos h13, hpl_p, hpl_t, hc_p, if_pos (show 0 < 2 by decide)] <;> rfl
            exact g_iret hC hR dX9_set_59 ⟨b, congrArg (fun z => some (Value.int (Prod.fst z))) hE.symm, by rw [hE]; exact hx1, xG.rf⟩
          · exfalso; omega
        · have hw_p : wh S pj < S.1 13 := hI.wt hpj (by omega)
          have hb_p : S.2.1 14 (wh S pj) = 0 := by have := ((hI.2.1 _ hpj).2.2.2.2.2 (by omega)).2; omega
          have hp0_p : plcF (thS S) b pj = some (b.1 6 (wh S pj)) := plc_k hpj hk_p (by decide)
          refine g_aald hC 5 rfl (hx0.Mp rfl).1 (hx0.Mp rfl).2 (pj) rfl (show pj < 10 by omega) (by decide) dX9_set_24 ?_
          refine g_val (w := .ref (b.1 6 (wh S pj))) (congrArg va_rf hp0_p) ?_
          refine g_iload_n hC dX9_set_25 rfl 2 rfl ?_
          refine g_iload_n hC dX9_set_26 rfl 3 rfl ?_
          refine g_S (As := [.ref (b.1 6 (wh S pj)), .int (nI 1), .int i]) (st := []) hC 3 dX9_set_27 gX9_set_X9_cellFault rfl (by decide +kernel) ⟨Nat.le_of_ble_eq_true rfl, Nat.le_of_ble_eq_true rfl⟩ rfl (Nat.le_of_ble_eq_true rfl) ⟨Nat.le_of_ble_eq_true rfl, Nat.le_of_ble_eq_true rfl⟩ (c2 := 0) (s2 := 0) rfl rfl (x_cellFault_T _ _ (hx0.T hw_p rfl hb_p) 1 (by decide) _) ?_
          refine g_istore (lv' := [(5, .int (nI 2)), (0, .ref M), (1, .int (nI pj)), (2, .int (nI 1)), (3, .int i), (4, .int v)]) hC dX9_set_30 (by decide) rfl ?_
          refine g_aload_n hC dX9_set_32 rfl 1 rfl (Or.inr ⟨_, rfl⟩) ?_
          refine g_get hC (by decide +kernel) rfl (hx0.M hM).1 (hx0.M hM).2 0 (by decide) (by decide +kernel) (Or.inl rfl) rfl dX9_set_33 ?_
          refine g_iload_n hC dX9_set_36 rfl 2 rfl ?_
          refine g_aald hC 5 rfl (hx0.Mp rfl).1 (hx0.Mp rfl).2 (pj) rfl (show pj < 10 by omega) (by decide) dX9_set_37 ?_
          refine g_val (w := .ref (b.1 6 (wh S pj))) (congrArg va_rf hp0_p) ?_
          refine g_S (As := [.ref (b.1 6 (wh S pj))]) (st := []) hC 1 dX9_set_38 gX9_set_X9_asNumbers rfl (by decide +kernel) ⟨Nat.le_of_ble_eq_true rfl, Nat.le_of_ble_eq_true rfl⟩ rfl (Nat.le_of_ble_eq_true rfl) ⟨Nat.le_of_ble_eq_true rfl, Nat.le_of_ble_eq_true rfl⟩ (c2 := 0) (s2 := 0) rfl rfl (x_asNumbers (some (b.1 6 (wh S pj))) 4 (Or.inr ⟨_, 5, _, rfl, (hx0.T hw_p rfl hb_p), Or.inr (Or.inr (Or.inr (Or.inl ⟨rfl, rfl⟩)))⟩)) ?_
          refine g_astore (lv' := [(6, .null), (5, .int (nI 2)), (0, .ref M), (1, .int (nI pj)), (2, .int (nI 1)), (3, .int i), (4, .int v)]) hC dX9_set_41 (by decide) rfl (Or.inl rfl) ?_
          refine g_iload hC dX9_set_43 1 rfl ?_
          refine g_ifN_ne (a := 2) (tgt := 53) hC dX9_set_45 (by decide) (by omega) (fun h45 => ?_) (fun h45 => ?_)
          · refine g_aload_n hC dX9_set_53 rfl 2 rfl (Or.inr ⟨_, rfl⟩) ?_
            refine g_iload hC dX9_set_54 1 rfl ?_
            refine g_Vx (As := [.int (nI 2)]) (st := []) hC 1 dX9_set_56 rfl (hx0.M hM).1 (hx0.M hM).2 gX9_set_X9_failed rfl (by decide +kernel) ⟨Nat.le_of_ble_eq_true rfl, Nat.le_of_ble_eq_true rfl⟩ rfl (Nat.le_of_ble_eq_true rfl) ⟨(Nat.le_of_ble_eq_true rfl), (Nat.le_of_ble_eq_true rfl)⟩ (c2 := 0) (s2 := 0) rfl rfl (x_failed hx0 M hM 2) (fun v1 L1 f1 hp1 => ?_)
            obtain ⟨rfl, hx1⟩ := hp1
            show gW X vwCl 7 L1 f1 0 0 59 [(6, .null), (5, .int (nI 2)), (0, .ref M), (1, .int (nI pj)), (2, .int (nI 1)), (3, .int i), (4, .int v)] [.int (fA 2)]
            have hc_p : castF S pj 1 = 2 := by unfold castF isO; rw [hk_p] <;> decide
            have hE : s_set S (nI pj) (nI 1) i v = (fA 2, (aSc (thS S) 1 2)) := by
              unfold s_set
              rw [if_pos h4, if_pos h13, hpl_p, hpl_t, hc_p, if_pos (show 0 < 2 by decide)] <;> rfl
            exact g_iret hC hR dX9_set_59 ⟨b, congrArg (fun z => some (Value.int (Prod.fst z))) hE.symm, by rw [hE]; exact hx1, xG.rf⟩
          · exfalso; omega
        · have hw_p : wh S pj < S.1 13 := hI.wt hpj (by omega)
          have hb_p : S.2.1 14 (wh S pj) ≠ 0 := by have := ((hI.2.1 _ hpj).2.2.2.2.2 (by omega)).2; omega
          have hp0_p : plcF (thS S) b pj = some (b.1 6 (wh S pj)) := plc_k hpj hk_p (by decide)
          refine g_aald hC 5 rfl (hx0.Mp rfl).1 (hx0.Mp rfl).2 (pj) rfl (show pj < 10 by omega) (by decide) dX9_set_24 ?_
          refine g_val (w := .ref (b.1 6 (wh S pj))) (congrArg va_rf hp0_p) ?_
          refine g_iload_n hC dX9_set_25 rfl 2 rfl ?_
          refine g_iload_n hC dX9_set_26 rfl 3 rfl ?_
          refine g_S (As := [.ref (b.1 6 (wh S pj)), .int (nI 1), .int i]) (st := []) hC 3 dX9_set_27 gX9_set_X9_cellFault rfl (by decide +kernel) ⟨Nat.le_of_ble_eq_true rfl, Nat.le_of_ble_eq_true rfl⟩ rfl (Nat.le_of_ble_eq_true rfl) ⟨Nat.le_of_ble_eq_true rfl, Nat.le_of_ble_eq_true rfl⟩ (c2 := 0) (s2 := 0) rfl rfl (x_cellFault_K _ _ (hx0.K hw_p rfl hb_p) 1 (by decide) _) ?_
          refine g_istore (lv' := [(5, .int (nI 2)), (0, .ref M), (1, .int (nI pj)), (2, .int (nI 1)), (3, .int i), (4, .int v)]) hC dX9_set_30 (by decide) rfl ?_
          refine g_aload_n hC dX9_set_32 rfl 1 rfl (Or.inr ⟨_, rfl⟩) ?_
          refine g_get hC (by decide +kernel) rfl (hx0.M hM).1 (hx0.M hM).2 0 (by decide) (by decide +kernel) (Or.inl rfl) rfl dX9_set_33 ?_
          refine g_iload_n hC dX9_set_36 rfl 2 rfl ?_
          refine g_aald hC 5 rfl (hx0.Mp rfl).1 (hx0.Mp rfl).2 (pj) rfl (show pj < 10 by omega) (by decide) dX9_set_37 ?_
          refine g_val (w := .ref (b.1 6 (wh S pj))) (congrArg va_rf hp0_p) ?_
          refine g_S (As := [.ref (b.1 6 (wh S pj))]) (st := []) hC 1 dX9_set_38 gX9_set_X9_asNumbers rfl (by decide +kernel) ⟨Nat.le_of_ble_eq_true rfl, Nat.le_of_ble_eq_true rfl⟩ rfl (Nat.le_of_ble_eq_true rfl) ⟨Nat.le_of_ble_eq_true rfl, Nat.le_of_ble_eq_true rfl⟩ (c2 := 0) (s2 := 0) rfl rfl (x_asNumbers (some (b.1 6 (wh S pj))) 5 (Or.inr ⟨_, 1, _, rfl, (hx0.K hw_p rfl hb_p), Or.inr (Or.inr (Or.inr (Or.inr ⟨rfl, rfl⟩)))⟩)) ?_
          refine g_astore (lv' := [(6, .null), (5, .int (nI 2)), (0, .ref M), (1, .int (nI pj)), (2, .int (nI 1)), (3, .int i), (4, .int v)]) hC dX9_set_41 (by decide) rfl (Or.inl rfl) ?_
          refine g_iload hC dX9_set_43 1 rfl ?_
          refine g_ifN_ne (a := 2) (tgt := 53) hC dX9_set_45 (by decide) (by omega) (fun h45 => ?_) (fun h45 => ?_)
          · refine g_aload_n hC dX9_set_53 rfl 2 rfl (Or.inr ⟨_, rfl⟩) ?_
            refine g_iload hC dX9_set_54 1 rfl ?_
            refine g_Vx (As := [.int (nI 2)]) (st := []) hC 1 dX9_set_56 rfl (hx0.M hM).1 (hx0.M hM).2 gX9_set_X9_failed rfl (by decide +kernel) ⟨Nat.le_of_ble_eq_true rfl, Nat.le_of_ble_eq_true rfl⟩ rfl (Nat.le_of_ble_eq_true rfl) ⟨(Nat.le_of_ble_eq_true rfl), (Nat.le_of_ble_eq_true rfl)⟩ (c2 := 0) (s2 := 0) rfl rfl (x_failed hx0 M hM 2) (fun v1 L1 f1 hp1 => ?_)
            obtain ⟨rfl, hx1⟩ := hp1
            show gW X vwCl 7 L1 f1 0 0 59 [(6, .null), (5, .int (nI 2)), (0, .ref M), (1, .int (nI pj)), (2, .int (nI 1)), (3, .int i), (4, .int v)] [.int (fA 2)]
            have hc_p : castF S pj 1 = 2 := by unfold castF isO; rw [hk_p] <;> decide
            have hE : s_set S (nI pj) (nI 1) i v = (fA 2, (aSc (thS S) 1 2)) := by
              unfold s_set
              rw [if_pos h4, if_pos h13, hpl_p, hpl_t, hc_p, if_pos (show 0 < 2 by decide)] <;> rfl
            exact g_iret hC hR dX9_set_59 ⟨b, congrArg (fun z => some (Value.int (Prod.fst z))) hE.symm, by rw [hE]; exact hx1, xG.rf⟩
          · exfalso; omega
      · have hpl_t : pl (nI 2) = 2 := by decide
        refine g_aload_n hC dX9_set_19 rfl 0 rfl (Or.inr ⟨_, rfl⟩) ?_
        refine g_get hC (by decide +kernel) rfl (hx0.M hM).1 (hx0.M hM).2 0 (by decide) (by decide +kernel) (Or.inl rfl) rfl dX9_set_20 ?_
        refine g_iload_n hC dX9_set_23 rfl 1 rfl ?_
        have h5_p := hI.k5 hpj
        rcases (show kd S pj = 0 ∨ kd S pj = 1 ∨ kd S pj = 2 ∨ kd S pj = 3 ∨ kd S pj = 4 ∨ kd S pj = 5 by omega) with hk_p | hk_p | hk_p | hk_p | hk_p | hk_p
        · have hp0_p : plcF (thS S) b pj = none := plc_0 hpj hk_p
          refine g_aald hC 5 rfl (hx0.Mp rfl).1 (hx0.Mp rfl).2 (pj) rfl (show pj < 10 by omega) (by decide) dX9_set_24 ?_
          refine g_val (w := .null) (congrArg va_rf hp0_p) ?_
          refine g_iload_n hC dX9_set_25 rfl 2 rfl ?_
          refine g_iload_n hC dX9_set_26 rfl 3 rfl ?_
          refine g_S (As := [.null, .int (nI 2), .int i]) (st := []) hC 3 dX9_set_27 gX9_set_X9_cellFault rfl (by decide +kernel) ⟨Nat.le_of_ble_eq_true rfl, Nat.le_of_ble_eq_true rfl⟩ rfl (Nat.le_of_ble_eq_true rfl) ⟨Nat.le_of_ble_eq_true rfl, Nat.le_of_ble_eq_true rfl⟩ (c2 := 0) (s2 := 0) rfl rfl (x_cellFault_0 2 (by decide) _) ?_
          refine g_istore (lv' := [(5, .int (nI 1)), (0, .ref M), (1, .int (nI pj)), (2, .int (nI 2)), (3, .int i), (4, .int v)]) hC dX9_set_30 (by decide) rfl ?_
          refine g_aload_n hC dX9_set_32 rfl 1 rfl (Or.inr ⟨_, rfl⟩) ?_
          refine g_get hC (by decide +kernel) rfl (hx0.M hM).1 (hx0.M hM).2 0 (by decide) (by decide +kernel) (Or.inl rfl) rfl dX9_set_33 ?_
          refine g_iload_n hC dX9_set_36 rfl 2 rfl ?_
          refine g_aald hC 5 rfl (hx0.Mp rfl).1 (hx0.Mp rfl).2 (pj) rfl (show pj < 10 by omega) (by decide) dX9_set_37 ?_
          refine g_val (w := .null) (congrArg va_rf hp0_p) ?_
          refine g_S (As := [.null]) (st := []) hC 1 dX9_set_38 gX9_set_X9_asNumbers rfl (by decide +kernel) ⟨Nat.le_of_ble_eq_true rfl, Nat.le_of_ble_eq_true rfl⟩ rfl (Nat.le_of_ble_eq_true rfl) ⟨Nat.le_of_ble_eq_true rfl, Nat.le_of_ble_eq_true rfl⟩ (c2 := 0) (s2 := 0) rfl rfl (x_asNumbers none 0 (Or.inl ⟨rfl, rfl⟩)) ?_
          refine g_astore (lv' := [(6, .null), (5, .int (nI 1)), (0, .ref M), (1, .int (nI pj)), (2, .int (nI 2)), (3, .int i), (4, .int v)]) hC dX9_set_41 (by decide) rfl (Or.inl rfl) ?_
          refine g_iload hC dX9_set_43 1 rfl ?_
          refine g_ifN_ne (a := 1) (tgt := 53) hC dX9_set_45 (by decide) (by omega) (fun h45 => ?_) (fun h45 => ?_)
          · refine g_aload_n hC dX9_set_53 rfl 2 rfl (Or.inr ⟨_, rfl⟩) ?_
            refine g_iload hC dX9_set_54 1 rfl ?_
            refine g_Vx (As := [.int (nI 1)]) (st := []) hC 1 dX9_set_56 rfl (hx0.M hM).1 (hx0.M hM).2 gX9_set_X9_failed rfl (by decide +kernel) ⟨Nat.le_of_ble_eq_true rfl, Nat.le_of_ble_eq_true rfl⟩ rfl (Nat.le_of_ble_eq_true rfl) ⟨(Nat.le_of_ble_eq_true rfl), (Nat.le_of_ble_eq_true rfl)⟩ (c2 := 0) (s2 := 0) rfl rfl (x_failed hx0 M hM 1) (fun v1 L1 f1 hp1 => ?_)
            obtain ⟨rfl, hx1⟩ := hp1
            show gW X vwCl 7 L1 f1 0 0 59 [(6, .null), (5, .int (nI 1)), (0, .ref M), (1, .int (nI pj)), (2, .int (nI 2)), (3, .int i), (4, .int v)] [.int (fA 1)]
            have hc_p : castF S pj 2 = 1 := by unfold castF isO; rw [hk_p] <;> decide
            have hE : s_set S (nI pj) (nI 2) i v = (fA 1, (aSc (thS S) 1 1)) := by
              unfold s_set
              rw [if_pos h4, if_pos h13, hpl_p, hpl_t, hc_p, if_pos (show 0 < 1 by decide)] <;> rfl
            exact g_iret hC hR dX9_set_59 ⟨b, congrArg (fun z => some (Value.int (Prod.fst z))) hE.symm, by rw [hE]; exact hx1, xG.rf⟩
          · exfalso; omega
        · have hw_p : wh S pj < S.1 4 := hI.wl hpj hk_p
          have hp0_p : plcF (thS S) b pj = some (b.1 0 (wh S pj)) := plc_k hpj hk_p (by decide)
          refine g_aald hC 5 rfl (hx0.Mp rfl).1 (hx0.Mp rfl).2 (pj) rfl (show pj < 10 by omega) (by decide) dX9_set_24 ?_
          refine g_val (w := .ref (b.1 0 (wh S pj))) (congrArg va_rf hp0_p) ?_
          refine g_iload_n hC dX9_set_25 rfl 2 rfl ?_
          refine g_iload_n hC dX9_set_26 rfl 3 rfl ?_
          refine g_S (As := [.ref (b.1 0 (wh S pj)), .int (nI 2), .int i]) (st := []) hC 3 dX9_set_27 gX9_set_X9_cellFault rfl (by decide +kernel) ⟨Nat.le_of_ble_eq_true rfl, Nat.le_of_ble_eq_true rfl⟩ rfl (Nat.le_of_ble_eq_true rfl) ⟨Nat.le_of_ble_eq_true rfl, Nat.le_of_ble_eq_true rfl⟩ (c2 := 0) (s2 := 0) rfl rfl (x_cellFault_B _ _ _ _ (hx0.isB hw_p rfl (hI.bl hw_p)) 2 (by decide) _) ?_
          refine g_istore (lv' := [(5, .int (nI 2)), (0, .ref M), (1, .int (nI pj)), (2, .int (nI 2)), (3, .int i), (4, .int v)]) hC dX9_set_30 (by decide) rfl ?_
          refine g_aload_n hC dX9_set_32 rfl 1 rfl (Or.inr ⟨_, rfl⟩) ?_
          refine g_get hC (by decide +kernel) rfl (hx0.M hM).1 (hx0.M hM).2 0 (by decide) (by decide +kernel) (Or.inl rfl) rfl dX9_set_33 ?_
          refine g_iload_n hC dX9_set_36 rfl 2 rfl ?_
          refine g_aald hC 5 rfl (hx0.Mp rfl).1 (hx0.Mp rfl).2 (pj) rfl (show pj < 10 by omega) (by decide) dX9_set_37 ?_
          refine g_val (w := .ref (b.1 0 (wh S pj))) (congrArg va_rf hp0_p) ?_
          refine g_S (As := [.ref (b.1 0 (wh S pj))]) (st := []) hC 1 dX9_set_38 gX9_set_X9_asNumbers rfl (by decide +kernel) ⟨Nat.le_of_ble_eq_true rfl, Nat.le_of_ble_eq_true rfl⟩ rfl (Nat.le_of_ble_eq_true rfl) ⟨Nat.le_of_ble_eq_true rfl, Nat.le_of_ble_eq_true rfl⟩ (c2 := 0) (s2 := 0) rfl rfl (x_asNumbers (some (b.1 0 (wh S pj))) 1 (Or.inr ⟨_, 0, _, rfl, (hx0.B hw_p rfl), Or.inl ⟨rfl, rfl⟩⟩)) ?_
          refine g_astore (lv' := [(6, .ref (b.1 0 (wh S pj))), (5, .int (nI 2)), (0, .ref M), (1, .int (nI pj)), (2, .int (nI 2)), (3, .int i), (4, .int v)]) hC dX9_set_41 (by decide) rfl (Or.inr ⟨_, rfl⟩) ?_
          refine g_iload hC dX9_set_43 1 rfl ?_
          refine g_ifN_ne (a := 2) (tgt := 53) hC dX9_set_45 (by decide) (by omega) (fun h45 => ?_) (fun h45 => ?_)
          · refine g_aload_n hC dX9_set_53 rfl 2 rfl (Or.inr ⟨_, rfl⟩) ?_
            refine g_iload hC dX9_set_54 1 rfl ?_
            refine g_Vx (As := [.int (nI 2)]) (st := []) hC 1 dX9_set_56 rfl (hx0.M hM).1 (hx0.M hM).2 gX9_set_X9_failed rfl (by decide +kernel) ⟨Nat.le_of_ble_eq_true rfl, Nat.le_of_ble_eq_true rfl⟩ rfl (Nat.le_of_ble_eq_true rfl) ⟨(Nat.le_of_ble_eq_true rfl), (Nat.le_of_ble_eq_true rfl)⟩ (c2 := 0) (s2 := 0) rfl rfl (x_failed hx0 M hM 2) (fun v1 L1 f1 hp1 => ?_)
            obtain ⟨rfl, hx1⟩ := hp1
            show gW X vwCl 7 L1 f1 0 0 59 [(6, .ref (b.1 0 (wh S pj))), (5, .int (nI 2)), (0, .ref M), (1, .int (nI pj)), (2, .int (nI 2)), (3, .int i), (4, .int v)] [.int (fA 2)]
            have hc_p : castF S pj 2 = 2 := by unfold castF isO; rw [hk_p] <;> decide
            have hE : s_set S (nI pj) (nI 2) i v = (fA 2, (aSc (thS S) 1 2)) := by
              unfold s_set
              rw [if_pos h4, if_pos h13, hpl_p, hpl_t, hc_p, if_pos (show 0 < 2 by decide)] <;> rfl
            exact g_iret hC hR dX9_set_59 ⟨b, congrArg (fun z => some (Value.int (Prod.fst z))) hE.symm, by rw [hE]; exact hx1, xG.rf⟩
          · exfalso; omega
        · have hw_p : wh S pj < S.1 7 := hI.ws hpj hk_p
          have hp0_p : plcF (thS S) b pj = some (b.1 2 (wh S pj)) := plc_k hpj hk_p (by decide)
          refine g_aald hC 5 rfl (hx0.Mp rfl).1 (hx0.Mp rfl).2 (pj) rfl (show pj < 10 by omega) (by decide) dX9_set_24 ?_
          refine g_val (w := .ref (b.1 2 (wh S pj))) (congrArg va_rf hp0_p) ?_
          refine g_iload_n hC dX9_set_25 rfl 2 rfl ?_
          refine g_iload_n hC dX9_set_26 rfl 3 rfl ?_
          refine g_S (As := [.ref (b.1 2 (wh S pj)), .int (nI 2), .int i]) (st := []) hC 3 dX9_set_27 gX9_set_X9_cellFault rfl (by decide +kernel) ⟨Nat.le_of_ble_eq_true rfl, Nat.le_of_ble_eq_true rfl⟩ rfl (Nat.le_of_ble_eq_true rfl) ⟨Nat.le_of_ble_eq_true rfl, Nat.le_of_ble_eq_true rfl⟩ (c2 := 0) (s2 := 0) rfl rfl (x_cellFault_S _ _ _ _ (hx0.isS hw_p rfl (hI.2.2.2.1 _ hw_p)) 2 (by decide) _) ?_
          have hl9 := (hI.2.2.2.1 _ hw_p)
          by_cases hin : 0 ≤ i ∧ i < nI (S.2.1 8 (wh S pj))
          · have hR_i := (in_R (show S.2.1 8 (wh S pj) < 2 ^ 30 by omega)).mp hin
            refine g_val (w := .int (nI 0)) (congrArg Value.int (if_pos hin)) ?_
            obtain ⟨ij, hij, rfl⟩ := (in_j (show S.2.1 8 (wh S pj) < 2 ^ 30 by omega)).mp hin
            have hpl_i : pl (nI ij) = ij := nI_clamp (by omega)
            refine g_istore (lv' := [(5, .int (nI 0)), (0, .ref M), (1, .int (nI pj)), (2, .int (nI 2)), (3, .int (nI ij)), (4, .int v)]) hC dX9_set_30 (by decide) rfl ?_
            refine g_aload_n hC dX9_set_32 rfl 1 rfl (Or.inr ⟨_, rfl⟩) ?_
            refine g_get hC (by decide +kernel) rfl (hx0.M hM).1 (hx0.M hM).2 0 (by decide) (by decide +kernel) (Or.inl rfl) rfl dX9_set_33 ?_
            refine g_iload_n hC dX9_set_36 rfl 2 rfl ?_
            refine g_aald hC 5 rfl (hx0.Mp rfl).1 (hx0.Mp rfl).2 (pj) rfl (show pj < 10 by omega) (by decide) dX9_set_37 ?_
            refine g_val (w := .ref (b.1 2 (wh S pj))) (congrArg va_rf hp0_p) ?_
            refine g_S (As := [.ref (b.1 2 (wh S pj))]) (st := []) hC 1 dX9_set_38 gX9_set_X9_asNumbers rfl (by decide +kernel) ⟨Nat.le_of_ble_eq_true rfl, Nat.le_of_ble_eq_true rfl⟩ rfl (Nat.le_of_ble_eq_true rfl) ⟨Nat.le_of_ble_eq_true rfl, Nat.le_of_ble_eq_true rfl⟩ (c2 := 0) (s2 := 0) rfl rfl (x_asNumbers (some (b.1 2 (wh S pj))) 2 (Or.inr ⟨_, 4, _, rfl, (hx0.G hw_p rfl), Or.inr (Or.inl ⟨rfl, rfl⟩)⟩)) ?_
            refine g_astore (lv' := [(6, .ref (b.1 2 (wh S pj))), (5, .int (nI 0)), (0, .ref M), (1, .int (nI pj)), (2, .int (nI 2)), (3, .int (nI ij)), (4, .int v)]) hC dX9_set_41 (by decide) rfl (Or.inr ⟨_, rfl⟩) ?_
            refine g_iload hC dX9_set_43 1 rfl ?_
            refine g_ifN_ne (a := 0) (tgt := 53) hC dX9_set_45 (by decide) (by omega) (fun h45 => ?_) (fun h45 => ?_)
            · exfalso; omega
            · refine g_aload hC dX9_set_48 0 rfl (Or.inr ⟨_, rfl⟩) ?_
              refine g_ifnonnull (o := some (b.1 2 (wh S pj))) (tgt := 60) hC dX9_set_50 (by decide) (fun a50 h50 => ?_) (fun h50 => ?_)
              · refine g_aload hC dX9_set_60 0 rfl (Or.inr ⟨_, rfl⟩) ?_
                refine g_iload_n hC dX9_set_62 rfl 5 rfl ?_
                refine g_iload hC dX9_set_63 6 rfl ?_
                refine g_Ax (As := [.int (nI ij), .int v]) (st := []) hC 2 dX9_set_65 rfl (hx0.G hw_p rfl).1 (hx0.G hw_p rfl).2 gX9_set_X6_putNumber_u100X6 rfl (gKK_D ⟨"KeptTerms$Numbers", "putNumber", "(II)V"⟩ (by decide)) (by decide +kernel) ⟨Nat.le_of_ble_eq_true rfl, Nat.le_of_ble_eq_true rfl⟩ rfl (Nat.le_of_ble_eq_true rfl) ⟨(Nat.le_of_ble_eq_true rfl), (Nat.le_of_ble_eq_true rfl)⟩ (c2 := 0) (s2 := 0) rfl rfl (x_putNumber_S (S := thS S) hx0 hI.2.2.2.1 _ _ hw_p rfl ij (show ij < S.2.1 8 (wh S pj) by omega) v) (fun v1 L1 f1 hp1 => ?_)
                obtain ⟨rfl, hx1⟩ := hp1
                show gW X vwCl 7 L1 f1 0 0 68 [(6, .ref (b.1 2 (wh S pj))), (5, .int (nI 0)), (0, .ref M), (1, .int (nI pj)), (2, .int (nI 2)), (3, .int (nI ij)), (4, .int v)] []
                refine g_iconst hC dX9_set_68 (v := nI 1) (by decide) ?_
                have hc_p : castF S pj 2 = 0 := by unfold castF isO; rw [hk_p] <;> decide
                have hlg_p : longS S pj = S.2.1 8 (wh S pj) := by unfold longS; rw [hk_p] <;> rfl
                have hE : s_set S (nI pj) (nI 2) (nI ij) v = (nI 1, aW (thS S) 9 (16 * (wh S pj) + ij) (v &&& nI 65535)) := by
                  unfold s_set
                  rw [if_pos h4, if_pos h13, hpl_p, hpl_t, hc_p, if_neg (show ¬ 0 < 0 by decide), hlg_p, if_pos hR_i, if_neg (show ¬ (nI 2 = nI 1) by decide), hpl_i] <;> rfl
                exact g_iret hC hR dX9_set_69 ⟨b, congrArg (fun z => some (Value.int (Prod.fst z))) hE.symm, by rw [hE]; exact hx1, xG.rf⟩
              · cases h50
          · have hR_i := fun z => hin ((in_R (show S.2.1 8 (wh S pj) < 2 ^ 30 by omega)).mpr z)
            refine g_val (w := .int (nI 3)) (congrArg Value.int (if_neg hin)) ?_
            refine g_istore (lv' := [(5, .int (nI 3)), (0, .ref M), (1, .int (nI pj)), (2, .int (nI 2)), (3, .int i), (4, .int v)]) hC dX9_set_30 (by decide) rfl ?_
            refine g_aload_n hC dX9_set_32 rfl 1 rfl (Or.inr ⟨_, rfl⟩) ?_
            refine g_get hC (by decide +kernel) rfl (hx0.M hM).1 (hx0.M hM).2 0 (by decide) (by decide +kernel) (Or.inl rfl) rfl dX9_set_33 ?_
            refine g_iload_n hC dX9_set_36 rfl 2 rfl ?_
            refine g_aald hC 5 rfl (hx0.Mp rfl).1 (hx0.Mp rfl).2 (pj) rfl (show pj < 10 by omega) (by decide) dX9_set_37 ?_
            refine g_val (w := .ref (b.1 2 (wh S pj))) (congrArg va_rf hp0_p) ?_
            refine g_S (As := [.ref (b.1 2 (wh S pj))]) (st := []) hC 1 dX9_set_38 gX9_set_X9_asNumbers rfl (by decide +kernel) ⟨Nat.le_of_ble_eq_true rfl, Nat.le_of_ble_eq_true rfl⟩ rfl (Nat.le_of_ble_eq_true rfl) ⟨Nat.le_of_ble_eq_true rfl, Nat.le_of_ble_eq_true rfl⟩ (c2 := 0) (s2 := 0) rfl rfl (x_asNumbers (some (b.1 2 (wh S pj))) 2 (Or.inr ⟨_, 4, _, rfl, (hx0.G hw_p rfl), Or.inr (Or.inl ⟨rfl, rfl⟩)⟩)) ?_
            refine g_astore (lv' := [(6, .ref (b.1 2 (wh S pj))), (5, .int (nI 3)), (0, .ref M), (1, .int (nI pj)), (2, .int (nI 2)), (3, .int i), (4, .int v)]) hC dX9_set_41 (by decide) rfl (Or.inr ⟨_, rfl⟩) ?_
            refine g_iload hC dX9_set_43 1 rfl ?_
            refine g_ifN_ne (a := 3) (tgt := 53) hC dX9_set_45 (by decide) (by omega) (fun h45 => ?_) (fun h45 => ?_)
            · refine g_aload_n hC dX9_set_53 rfl 2 rfl (Or.inr ⟨_, rfl⟩) ?_
              refine g_iload hC dX9_set_54 1 rfl ?_
              refine g_Vx (As := [.int (nI 3)]) (st := []) hC 1 dX9_set_56 rfl (hx0.M hM).1 (hx0.M hM).2 gX9_set_X9_failed rfl (by decide +kernel) ⟨Nat.le_of_ble_eq_true rfl, Nat.le_of_ble_eq_true rfl⟩ rfl (Nat.le_of_ble_eq_true rfl) ⟨(Nat.le_of_ble_eq_true rfl), (Nat.le_of_ble_eq_true rfl)⟩ (c2 := 0) (s2 := 0) rfl rfl (x_failed hx0 M hM 3) (fun v1 L1 f1 hp1 => ?_)
              obtain ⟨rfl, hx1⟩ := hp1
              show gW X vwCl 7 L1 f1 0 0 59 [(6, .ref (b.1 2 (wh S pj))), (5, .int (nI 3)), (0, .ref M), (1, .int (nI pj)), (2, .int (nI 2)), (3, .int i), (4, .int v)] [.int (fA 3)]
              have hc_p : castF S pj 2 = 0 := by unfold castF isO; rw [hk_p] <;> decide
              have hlg_p : longS S pj = S.2.1 8 (wh S pj) := by unfold longS; rw [hk_p] <;> rfl
              have hE : s_set S (nI pj) (nI 2) i v = (fA 3, (aSc (thS S) 1 3)) := by
                unfold s_set
                rw [if_pos h4, if_pos h13, hpl_p, hpl_t, hc_p, if_neg (show ¬ 0 < 0 by decide), hlg_p, if_neg hR_i] <;> rfl
              exact g_iret hC hR dX9_set_59 ⟨b, congrArg (fun z => some (Value.int (Prod.fst z))) hE.symm, by rw [hE]; exact hx1, xG.rf⟩
            · exfalso; omega
        · have hw_p : wh S pj < S.1 10 := hI.wr hpj hk_p
          have hp0_p : plcF (thS S) b pj = some (b.1 4 (wh S pj)) := plc_k hpj hk_p (by decide)
          refine g_aald hC 5 rfl (hx0.Mp rfl).1 (hx0.Mp rfl).2 (pj) rfl (show pj < 10 by omega) (by decide) dX9_set_24 ?_
          refine g_val (w := .ref (b.1 4 (wh S pj))) (congrArg va_rf hp0_p) ?_
          refine g_iload_n hC dX9_set_25 rfl 2 rfl ?_
          refine g_iload_n hC dX9_set_26 rfl 3 rfl ?_
          refine g_S (As := [.ref (b.1 4 (wh S pj)), .int (nI 2), .int i]) (st := []) hC 3 dX9_set_27 gX9_set_X9_cellFault rfl (by decide +kernel) ⟨Nat.le_of_ble_eq_true rfl, Nat.le_of_ble_eq_true rfl⟩ rfl (Nat.le_of_ble_eq_true rfl) ⟨Nat.le_of_ble_eq_true rfl, Nat.le_of_ble_eq_true rfl⟩ (c2 := 0) (s2 := 0) rfl rfl (x_cellFault_R _ _ _ _ (isR.B hx0 hw_p rfl (hI.2.2.2.2.1 _ hw_p)) 2 (by decide) _) ?_
          refine g_istore (lv' := [(5, .int (nI 2)), (0, .ref M), (1, .int (nI pj)), (2, .int (nI 2)), (3, .int i), (4, .int v)]) hC dX9_set_30 (by decide) rfl ?_
          refine g_aload_n hC dX9_set_32 rfl 1 rfl (Or.inr ⟨_, rfl⟩) ?_
          refine g_get hC (by decide +kernel) rfl (hx0.M hM).1 (hx0.M hM).2 0 (by decide) (by decide +kernel) (Or.inl rfl) rfl dX9_set_33 ?_
          refine g_iload_n hC dX9_set_36 rfl 2 rfl ?_
          refine g_aald hC 5 rfl (hx0.Mp rfl).1 (hx0.Mp rfl).2 (pj) rfl (show pj < 10 by omega) (by decide) dX9_set_37 ?_
          refine g_val (w := .ref (b.1 4 (wh S pj))) (congrArg va_rf hp0_p) ?_
          refine g_S (As := [.ref (b.1 4 (wh S pj))]) (st := []) hC 1 dX9_set_38 gX9_set_X9_asNumbers rfl (by decide +kernel) ⟨Nat.le_of_ble_eq_true rfl, Nat.le_of_ble_eq_true rfl⟩ rfl (Nat.le_of_ble_eq_true rfl) ⟨Nat.le_of_ble_eq_true rfl, Nat.le_of_ble_eq_true rfl⟩ (c2 := 0) (s2 := 0) rfl rfl (x_asNumbers (some (b.1 4 (wh S pj))) 3 (Or.inr ⟨_, 3, _, rfl, (hx0.W hw_p rfl), Or.inr (Or.inr (Or.inl ⟨rfl, rfl⟩))⟩)) ?_
          refine g_astore (lv' := [(6, .null), (5, .int (nI 2)), (0, .ref M), (1, .int (nI pj)), (2, .int (nI 2)), (3, .int i), (4, .int v)]) hC dX9_set_41 (by decide) rfl (Or.inl rfl) ?_
          refine g_iload hC dX9_set_43 1 rfl ?_
          refine g_ifN_ne (a := 2) (tgt := 53) hC dX9_set_45 (by decide) (by omega) (fun h45 => ?_) (fun h45 => ?_)
          · refine g_aload_n hC dX9_set_53 rfl 2 rfl (Or.inr ⟨_, rfl⟩) ?_
            refine g_iload hC dX9_set_54 1 rfl ?_
            refine g_Vx (As := [.int (nI 2)]) (st := []) hC 1 dX9_set_56 rfl (hx0.M hM).1 (hx0.M hM).2 gX9_set_X9_failed rfl (by decide +kernel) ⟨Nat.le_of_ble_eq_true rfl, Nat.le_of_ble_eq_true rfl⟩ rfl (Nat.le_of_ble_eq_true rfl) ⟨(Nat.le_of_ble_eq_true rfl), (Nat.le_of_ble_eq_true rfl)⟩ (c2 := 0) (s2 := 0) rfl rfl (x_failed hx0 M hM 2) (fun v1 L1 f1 hp1 => ?_)
            obtain ⟨rfl, hx1⟩ := hp1
            show gW X vwCl 7 L1 f1 0 0 59 [(6, .null), (5, .int (nI 2)), (0, .ref M), (1, .int (nI pj)), (2, .int (nI 2)), (3, .int i), (4, .int v)] [.int (fA 2)]
            have hc_p : castF S pj 2 = 2 := by unfold castF isO; rw [hk_p] <;> decide
            have hE : s_set S (nI pj) (nI 2) i v = (fA 2, (aSc (thS S) 1 2)) := by
              unfold s_set
              rw [if_pos h4, if_pos h13, hpl_p, hpl_t, hc_p, if_pos (show 0 < 2 by decide)] <;> rfl
            exact g_iret hC hR dX9_set_59 ⟨b, congrArg (fun z => some (Value.int (Prod.fst z))) hE.symm, by rw [hE]; exact hx1, xG.rf⟩
          · exfalso; omega
        · have hw_p : wh S pj < S.1 13 := hI.wt hpj (by omega)
          have hb_p : S.2.1 14 (wh S pj) = 0 := by have := ((hI.2.1 _ hpj).2.2.2.2.2 (by omega)).2; omega
          have hp0_p : plcF (thS S) b pj = some (b.1 6 (wh S pj)) := plc_k hpj hk_p (by decide)
          refine g_aald hC 5 rfl (hx0.Mp rfl).1 (hx0.Mp rfl).2 (pj) rfl (show pj < 10 by omega) (by decide) dX9_set_24 ?_
          refine g_val (w := .ref (b.1 6 (wh S pj))) (congrArg va_rf hp0_p) ?_
          refine g_iload_n hC dX9_set_25 rfl 2 rfl ?_
          refine g_iload_n hC dX9_set_26 rfl 3 rfl ?_
          refine g_S (As := [.ref (b.1 6 (wh S pj)), .int (nI 2), .int i]) (st := []) hC 3 dX9_set_27 gX9_set_X9_cellFault rfl (by decide +kernel) ⟨Nat.le_of_ble_eq_true rfl, Nat.le_of_ble_eq_true rfl⟩ rfl (Nat.le_of_ble_eq_true rfl) ⟨Nat.le_of_ble_eq_true rfl, Nat.le_of_ble_eq_true rfl⟩ (c2 := 0) (s2 := 0) rfl rfl (x_cellFault_T _ _ (hx0.T hw_p rfl hb_p) 2 (by decide) _) ?_
          refine g_istore (lv' := [(5, .int (nI 2)), (0, .ref M), (1, .int (nI pj)), (2, .int (nI 2)), (3, .int i), (4, .int v)]) hC dX9_set_30 (by decide) rfl ?_
          refine g_aload_n hC dX9_set_32 rfl 1 rfl (Or.inr ⟨_, rfl⟩) ?_
          refine g_get hC (by decide +kernel) rfl (hx0.M hM).1 (hx0.M hM).2 0 (by decide) (by decide +kernel) (Or.inl rfl) rfl dX9_set_33 ?_
          refine g_iload_n hC dX9_set_36 rfl 2 rfl ?_
          refine g_aald hC 5 rfl (hx0.Mp rfl).1 (hx0.Mp rfl).2 (pj) rfl (show pj < 10 by omega) (by decide) dX9_set_37 ?_
          refine g_val (w := .ref (b.1 6 (wh S pj))) (congrArg va_rf hp0_p) ?_
          refine g_S (As := [.ref (b.1 6 (wh S pj))]) (st := []) hC 1 dX9_set_38 gX9_set_X9_asNumbers rfl (by decide +kernel) ⟨Nat.le_of_ble_eq_true rfl, Nat.le_of_ble_eq_true rfl⟩ rfl (Nat.le_of_ble_eq_true rfl) ⟨Nat.le_of_ble_eq_true rfl, Nat.le_of_ble_eq_true rfl⟩ (c2 := 0) (s2 := 0) rfl rfl (x_asNumbers (some (b.1 6 (wh S pj))) 4 (Or.inr ⟨_, 5, _, rfl, (hx0.T hw_p rfl hb_p), Or.inr (Or.inr (Or.inr (Or.inl ⟨rfl, rfl⟩)))⟩)) ?_
          refine g_astore (lv' := [(6, .null), (5, .int (nI 2)), (0, .ref M), (1, .int (nI pj)), (2, .int (nI 2)), (3, .int i), (4, .int v)]) hC dX9_set_41 (by decide) rfl (Or.inl rfl) ?_
          refine g_iload hC dX9_set_43 1 rfl ?_
          refine g_ifN_ne (a := 2) (tgt := 53) hC dX9_set_45 (by decide) (by omega) (fun h45 => ?_) (fun h45 => ?_)
          · refine g_aload_n hC dX9_set_53 rfl 2 rfl (Or.inr ⟨_, rfl⟩) ?_
            refine g_iload hC dX9_set_54 1 rfl ?_
            refine g_Vx (As := [.int (nI 2)]) (st := []) hC 1 dX9_set_56 rfl (hx0.M hM).1 (hx0.M hM).2 gX9_set_X9_failed rfl (by decide +kernel) ⟨Nat.le_of_ble_eq_true rfl, Nat.le_of_ble_eq_true rfl⟩ rfl (Nat.le_of_ble_eq_true rfl) ⟨(Nat.le_of_ble_eq_true rfl), (Nat.le_of_ble_eq_true rfl)⟩ (c2 := 0) (s2 := 0) rfl rfl (x_failed hx0 M hM 2) (fun v1 L1 f1 hp1 => ?_)
            obtain ⟨rfl, hx1⟩ := hp1
            show gW X vwCl 7 L1 f1 0 0 59 [(6, .null), (5, .int (nI 2)), (0, .ref M), (1, .int (nI pj)), (2, .int (nI 2)), (3, .int i), (4, .int v)] [.int (fA 2)]
            have hc_p : castF S pj 2 = 2 := by unfold castF isO; rw [hk_p] <;> decide
            have hE : s_set S (nI pj) (nI 2) i v = (fA 2, (aSc (thS S) 1 2)) := by
              unfold s_set
              rw [if_pos h4, if_pos h13, hpl_p, hpl_t, hc_p, if_pos (show 0 < 2 by decide)] <;> rfl
            exact g_iret hC hR dX9_set_59 ⟨b, congrArg (fun z => some (Value.int (Prod.fst z))) hE.symm, by rw [hE]; exact hx1, xG.rf⟩
          · exfalso; omega
        · have hw_p : wh S pj < S.1 13 := hI.wt hpj (by omega)
          have hb_p : S.2.1 14 (wh S pj) ≠ 0 := by have := ((hI.2.1 _ hpj).2.2.2.2.2 (by omega)).2; omega
          have hp0_p : plcF (thS S) b pj = some (b.1 6 (wh S pj)) := plc_k hpj hk_p (by decide)
          refine g_aald hC 5 rfl (hx0.Mp rfl).1 (hx0.Mp rfl).2 (pj) rfl (show pj < 10 by omega) (by decide) dX9_set_24 ?_
          refine g_val (w := .ref (b.1 6 (wh S pj))) (congrArg va_rf hp0_p) ?_
          refine g_iload_n hC dX9_set_25 rfl 2 rfl ?_
          refine g_iload_n hC dX9_set_26 rfl 3 rfl ?_
          refine g_S (As := [.ref (b.1 6 (wh S pj)), .int (nI 2), .int i]) (st := []) hC 3 dX9_set_27 gX9_set_X9_cellFault rfl (by decide +kernel) ⟨Nat.le_of_ble_eq_true rfl, Nat.le_of_ble_eq_true rfl⟩ rfl (Nat.le_of_ble_eq_true rfl) ⟨Nat.le_of_ble_eq_true rfl, Nat.le_of_ble_eq_true rfl⟩ (c2 := 0) (s2 := 0) rfl rfl (x_cellFault_K _ _ (hx0.K hw_p rfl hb_p) 2 (by decide) _) ?_
          refine g_istore (lv' := [(5, .int (nI 2)), (0, .ref M), (1, .int (nI pj)), (2, .int (nI 2)), (3, .int i), (4, .int v)]) hC dX9_set_30 (by decide) rfl ?_
          refine g_aload_n hC dX9_set_32 rfl 1 rfl (Or.inr ⟨_, rfl⟩) ?_
          refine g_get hC (by decide +kernel) rfl (hx0.M hM).1 (hx0.M hM).2 0 (by decide) (by decide +kernel) (Or.inl rfl) rfl dX9_set_33 ?_
          refine g_iload_n hC dX9_set_36 rfl 2 rfl ?_
          refine g_aald hC 5 rfl (hx0.Mp rfl).1 (hx0.Mp rfl).2 (pj) rfl (show pj < 10 by omega) (by decide) dX9_set_37 ?_
          refine g_val (w := .ref (b.1 6 (wh S pj))) (congrArg va_rf hp0_p) ?_
          refine g_S (As := [.ref (b.1 6 (wh S pj))]) (st := []) hC 1 dX9_set_38 gX9_set_X9_asNumbers rfl (by decide +kernel) ⟨Nat.le_of_ble_eq_true rfl, Nat.le_of_ble_eq_true rfl⟩ rfl (Nat.le_of_ble_eq_true rfl) ⟨Nat.le_of_ble_eq_true rfl, Nat.le_of_ble_eq_true rfl⟩ (c2 := 0) (s2 := 0) rfl rfl (x_asNumbers (some (b.1 6 (wh S pj))) 5 (Or.inr ⟨_, 1, _, rfl, (hx0.K hw_p rfl hb_p), Or.inr (Or.inr (Or.inr (Or.inr ⟨rfl, rfl⟩)))⟩)) ?_
          refine g_astore (lv' := [(6, .null), (5, .int (nI 2)), (0, .ref M), (1, .int (nI pj)), (2, .int (nI 2)), (3, .int i), (4, .int v)]) hC dX9_set_41 (by decide) rfl (Or.inl rfl) ?_
          refine g_iload hC dX9_set_43 1 rfl ?_
          refine g_ifN_ne (a := 2) (tgt := 53) hC dX9_set_45 (by decide) (by omega) (fun h45 => ?_) (fun h45 => ?_)
          · refine g_aload_n hC dX9_set_53 rfl 2 rfl (Or.inr ⟨_, rfl⟩) ?_
            refine g_iload hC dX9_set_54 1 rfl ?_
            refine g_Vx (As := [.int (nI 2)]) (st := []) hC 1 dX9_set_56 rfl (hx0.M hM).1 (hx0.M hM).2 gX9_set_X9_failed rfl (by decide +kernel) ⟨Nat.le_of_ble_eq_true rfl, Nat.le_of_ble_eq_true rfl⟩ rfl (Nat.le_of_ble_eq_true rfl) ⟨(Nat.le_of_ble_eq_true rfl), (Nat.le_of_ble_eq_true rfl)⟩ (c2 := 0) (s2 := 0) rfl rfl (x_failed hx0 M hM 2) (fun v1 L1 f1 hp1 => ?_)
            obtain ⟨rfl, hx1⟩ := hp1
            show gW X vwCl 7 L1 f1 0 0 59 [(6, .null), (5, .int (nI 2)), (0, .ref M), (1, .int (nI pj)), (2, .int (nI 2)), (3, .int i), (4, .int v)] [.int (fA 2)]
            have hc_p : castF S pj 2 = 2 := by unfold castF isO; rw [hk_p] <;> decide
            have hE : s_set S (nI pj) (nI 2) i v = (fA 2, (aSc (thS S) 1 2)) := by
              unfold s_set
              rw [if_pos h4, if_pos h13, hpl_p, hpl_t, hc_p, if_pos (show 0 < 2 by decide)] <;> rfl
            exact g_iret hC hR dX9_set_59 ⟨b, congrArg (fun z => some (Value.int (Prod.fst z))) hE.symm, by rw [hE]; exact hx1, xG.rf⟩
          · exfalso; omega
    · refine g_bipush hC dX9_set_16 (v := (-2)) (by decide) ?_
      have hE : s_set S (nI pj) t i v = ((-2), (thS S)) := by
        unfold s_set
        rw [if_pos h4, if_neg h13] <;> rfl
      exact g_iret hC hR dX9_set_18 ⟨b, congrArg (fun z => some (Value.int (Prod.fst z))) hE.symm, by rw [hE]; exact hx0, xG.rf⟩
  · refine g_iconst hC dX9_set_7 (v := (-1)) (by decide) ?_
    have hE : s_set S p t i v = ((-1), (thS S)) := by
      unfold s_set
      rw [if_neg h4] <;> rfl
    exact g_iret hC hR dX9_set_8 ⟨b, congrArg (fun z => some (Value.int (Prod.fst z))) hE.symm, by rw [hE]; exact hx0, xG.rf⟩
end Y1
