theorem xV_com {S : aS} {t r0 k r : Nat} (hI : aI S) (hr0 : r0 < S.1 4) (hk : xV S k r) : xV (comS S t r0).2 k r := by
  have hf := comA_f (t := t) hI hr0
  rw [com_A]
  have h7 : (comA S t r0).2.1 7 = S.1 7 := hf.1 7 (by decide) (by decide)
  have h10 : (comA S t r0).2.1 10 = S.1 10 := hf.1 10 (by decide) (by decide)
  have h13 : (comA S t r0).2.1 13 = S.1 13 := hf.1 13 (by decide) (by decide)
  have h4 := hf.2.2.2
  exact hk.cs (P := fun k r => xV (sc2 (comA S t r0).2 (S.1 23 + (lk S t r0).2) (S.1 24 + 1)) k r) (fun h => show r < (comA S t r0).2.1 4 by omega) (fun h => show r < (comA S t r0).2.1 4 by omega) (fun h => show r < (comA S t r0).2.1 7 by omega) (fun h => show r < (comA S t r0).2.1 7 by omega) (fun h => show r < (comA S t r0).2.1 10 by omega) (fun h => show r < (comA S t r0).2.1 10 by omega) (fun h => show r < (comA S t r0).2.1 13 by omega) (fun h => show r < (comA S t r0).2.1 13 by omega) (fun h => show r < (comA S t r0).2.1 13 by omega) (show 0 < 4 by decide) (show 1 < 4 by decide) (show 2 < 4 by decide) (show 3 < 4 by decide) (show 0 < 1 by decide)
section Y6
variable {l : Launch} {D : va_G} {cy adK adV : Nat → Nat} {L : List Nat} {f : Nat → va_E} {Inv : aS → Prop}
set_option maxRecDepth 20000 in
set_option maxHeartbeats 4000000 in
theorem y_merge {S : aS} {b : xB} (hx : xR cy S b L f) (hI : aI S) (M : Nat) (hM : b.1 9 0 = M) (hb : S.1 4 + 100 ≤ 39000) (hInv : Inv (thS S)) (hst : ∀ Z t r, Inv Z → r < Z.1 4 → Inv (comS Z t r).2) (h24 : ∀ Z, Inv Z → Z.1 21 < 1024) (p q : Int32) : gCt l D vwCl (gKK D cy adK adV) yX9_merge wsX9_merge { frames := 8, cells := (rmC S (s_merge S p q).2), slots := (rmS S (s_merge S p q).2), locals := 167 } [.ref M, .int p, .int q] L f (xP cy S b (s_merge S p q).2 (fun _ => some (.int (s_merge S p q).1))) := by
  refine gCt.of gKK_ok (by decide) rfl rfl (fun X hC hR hnm => ?_)
  have hC : gC X l _ D vwCl (cyT cy) (gKK D cy adK adV) cX9_merge 8 wsX9_merge RX9 := hC
  have hx0 := hx.th0
  have hI0 := hI.th
  show gW X vwCl 8 L f 0 0 0 [(0, .ref M), (1, .int p), (2, .int q)] []
  refine g_iload_n hC dX9_merge_0 rfl 1 rfl ?_
  refine g_S (As := [.int p]) (st := []) hC 1 dX9_merge_1 gX9_merge_X9_isPlace rfl (by decide +kernel) ⟨Nat.le_of_ble_eq_true rfl, Nat.le_of_ble_eq_true rfl⟩ rfl (Nat.le_of_ble_eq_true rfl) ⟨(show 0 + 0 ≤ (rmC S (s_merge S p q).2) by omega), (show 0 + 0 ≤ (rmS S (s_merge S p q).2) by omega)⟩ (c2 := 0) (s2 := 0) rfl rfl (x_isPlace _) ?_
  refine g_ifB_eq (P := isP p) (tgt := 14) hC dX9_merge_4 (by decide) (fun h4 => ?_) (fun h4 => ?_)
  · refine g_iconst hC dX9_merge_14 (v := (-1)) (by decide) ?_
    have hE : s_merge S p q = ((-1), (thS S)) := by
      unfold s_merge
      rw [if_neg h4] <;> rfl
    refine g_widen (c2 := (rmC S (s_merge S p q).2)) (s2 := (rmS S (s_merge S p q).2)) (show 0 ≤ (rmC S (s_merge S p q).2) by omega) (show 0 ≤ (rmS S (s_merge S p q).2) by omega) ?_
    exact g_iret hC hR dX9_merge_15 ⟨b, congrArg (fun z => some (Value.int (Prod.fst z))) hE.symm, by rw [hE]; exact hx0, xG.rf⟩
  · obtain ⟨pj, hpj, rfl⟩ := isP_j h4
    have hpl_p : pl (nI pj) = pj := nI_clamp (by omega)
    refine g_iload_n hC dX9_merge_7 rfl 2 rfl ?_
    refine g_S (As := [.int q]) (st := []) hC 1 dX9_merge_8 gX9_merge_X9_isPlace rfl (by decide +kernel) ⟨Nat.le_of_ble_eq_true rfl, Nat.le_of_ble_eq_true rfl⟩ rfl (Nat.le_of_ble_eq_true rfl) ⟨(show 0 + 0 ≤ (rmC S (s_merge S (nI pj) q).2) by omega), (show 0 + 0 ≤ (rmS S (s_merge S (nI pj) q).2) by omega)⟩ (c2 := 0) (s2 := 0) rfl rfl (x_isPlace _) ?_
    refine g_ifB_ne (P := isP q) (tgt := 16) hC dX9_merge_11 (by decide) (fun h11 => ?_) (fun h11 => ?_)
    · obtain ⟨qj, hqj, rfl⟩ := isP_j h11
      have hpl_q : pl (nI qj) = qj := nI_clamp (by omega)
      refine g_aload_n hC dX9_merge_16 rfl 0 rfl (Or.inr ⟨_, rfl⟩) ?_
      refine g_get hC (by decide +kernel) rfl (hx0.M hM).1 (hx0.M hM).2 0 (by decide) (by decide +kernel) (Or.inl rfl) rfl dX9_merge_17 ?_
      refine g_iload_n hC dX9_merge_20 rfl 1 rfl ?_
      have h5_p := hI.k5 hpj
      rcases (show kd S pj = 0 ∨ kd S pj = 1 ∨ kd S pj = 2 ∨ kd S pj = 3 ∨ kd S pj = 4 ∨ kd S pj = 5 by omega) with hk_p | hk_p | hk_p | hk_p | hk_p | hk_p
      · have hp0_p : plcF (thS S) b pj = none := plc_0 hpj hk_p
        refine g_aald hC 5 rfl (hx0.Mp rfl).1 (hx0.Mp rfl).2 (pj) rfl (show pj < 10 by omega) (by decide) dX9_merge_21 ?_
        refine g_val (w := .null) (congrArg va_rf hp0_p) ?_
        refine g_iconst hC dX9_merge_22 (v := nI 4) (by decide) ?_
        refine g_S (As := [.null, .int (nI 4)]) (st := []) hC 2 dX9_merge_23 gX9_merge_X9_mayBeCast rfl (by decide +kernel) ⟨Nat.le_of_ble_eq_true rfl, Nat.le_of_ble_eq_true rfl⟩ rfl (Nat.le_of_ble_eq_true rfl) ⟨(show 0 + 0 ≤ (rmC S (s_merge S (nI pj) (nI qj)).2) by omega), (show 0 + 0 ≤ (rmS S (s_merge S (nI pj) (nI qj)).2) by omega)⟩ (c2 := 0) (s2 := 0) rfl rfl (x_mayBeCast none 0 (Or.inl ⟨rfl, rfl⟩) 4 (by decide)) ?_
        refine g_ifN_eq (a := 1) (tgt := 42) hC dX9_merge_26 (by decide) (by omega) (fun h26 => ?_) (fun h26 => ?_)
        · exfalso; omega
        · refine g_aload_n hC dX9_merge_29 rfl 0 rfl (Or.inr ⟨_, rfl⟩) ?_
          refine g_get hC (by decide +kernel) rfl (hx0.M hM).1 (hx0.M hM).2 0 (by decide) (by decide +kernel) (Or.inl rfl) rfl dX9_merge_30 ?_
          refine g_iload_n hC dX9_merge_33 rfl 2 rfl ?_
          have h5_q := hI.k5 hqj
          rcases (show kd S qj = 0 ∨ kd S qj = 1 ∨ kd S qj = 2 ∨ kd S qj = 3 ∨ kd S qj = 4 ∨ kd S qj = 5 by omega) with hk_q | hk_q | hk_q | hk_q | hk_q | hk_q
          · have hp0_q : plcF (thS S) b qj = none := plc_0 hqj hk_q
            refine g_aald hC 5 rfl (hx0.Mp rfl).1 (hx0.Mp rfl).2 (qj) rfl (show qj < 10 by omega) (by decide) dX9_merge_34 ?_
            refine g_val (w := .null) (congrArg va_rf hp0_q) ?_
            refine g_iconst hC dX9_merge_35 (v := nI 4) (by decide) ?_
            refine g_S (As := [.null, .int (nI 4)]) (st := []) hC 2 dX9_merge_36 gX9_merge_X9_mayBeCast rfl (by decide +kernel) ⟨Nat.le_of_ble_eq_true rfl, Nat.le_of_ble_eq_true rfl⟩ rfl (Nat.le_of_ble_eq_true rfl) ⟨(show 0 + 0 ≤ (rmC S (s_merge S (nI pj) (nI qj)).2) by omega), (show 0 + 0 ≤ (rmS S (s_merge S (nI pj) (nI qj)).2) by omega)⟩ (c2 := 0) (s2 := 0) rfl rfl (x_mayBeCast none 0 (Or.inl ⟨rfl, rfl⟩) 4 (by decide)) ?_
            refine g_ifN_ne (a := 1) (tgt := 48) hC dX9_merge_39 (by decide) (by omega) (fun h39 => ?_) (fun h39 => ?_)
            · refine g_aload_n hC dX9_merge_48 rfl 0 rfl (Or.inr ⟨_, rfl⟩) ?_
              refine g_get hC (by decide +kernel) rfl (hx0.M hM).1 (hx0.M hM).2 0 (by decide) (by decide +kernel) (Or.inl rfl) rfl dX9_merge_49 ?_
              refine g_iload_n hC dX9_merge_52 rfl 1 rfl ?_
              refine g_aald hC 5 rfl (hx0.Mp rfl).1 (hx0.Mp rfl).2 (pj) rfl (show pj < 10 by omega) (by decide) dX9_merge_53 ?_
              refine g_val (w := .null) (congrArg va_rf hp0_p) ?_
              refine g_S (As := [.null]) (st := []) hC 1 dX9_merge_54 gX9_merge_X9_asTable rfl (by decide +kernel) ⟨Nat.le_of_ble_eq_true rfl, Nat.le_of_ble_eq_true rfl⟩ rfl (Nat.le_of_ble_eq_true rfl) ⟨(show 0 + 0 ≤ (rmC S (s_merge S (nI pj) (nI qj)).2) by omega), (show 0 + 0 ≤ (rmS S (s_merge S (nI pj) (nI qj)).2) by omega)⟩ (c2 := 0) (s2 := 0) rfl rfl (x_asTable none 0 (Or.inl ⟨rfl, rfl⟩)) ?_
              refine g_astore_n (lv' := [(3, .null), (0, .ref M), (1, .int (nI pj)), (2, .int (nI qj))]) hC dX9_merge_57 rfl (by decide) rfl (Or.inl rfl) ?_
              refine g_aload_n hC dX9_merge_58 rfl 1 rfl (Or.inr ⟨_, rfl⟩) ?_
              refine g_get hC (by decide +kernel) rfl (hx0.M hM).1 (hx0.M hM).2 0 (by decide) (by decide +kernel) (Or.inl rfl) rfl dX9_merge_59 ?_
              refine g_iload_n hC dX9_merge_62 rfl 3 rfl ?_
              refine g_aald hC 5 rfl (hx0.Mp rfl).1 (hx0.Mp rfl).2 (qj) rfl (show qj < 10 by omega) (by decide) dX9_merge_63 ?_
              refine g_val (w := .null) (congrArg va_rf hp0_q) ?_
              refine g_S (As := [.null]) (st := []) hC 1 dX9_merge_64 gX9_merge_X9_asTable rfl (by decide +kernel) ⟨Nat.le_of_ble_eq_true rfl, Nat.le_of_ble_eq_true rfl⟩ rfl (Nat.le_of_ble_eq_true rfl) ⟨(show 0 + 0 ≤ (rmC S (s_merge S (nI pj) (nI qj)).2) by omega), (show 0 + 0 ≤ (rmS S (s_merge S (nI pj) (nI qj)).2) by omega)⟩ (c2 := 0) (s2 := 0) rfl rfl (x_asTable none 0 (Or.inl ⟨rfl, rfl⟩)) ?_
              refine g_astore (lv' := [(4, .null), (3, .null), (0, .ref M), (1, .int (nI pj)), (2, .int (nI qj))]) hC dX9_merge_67 (by decide) rfl (Or.inl rfl) ?_
              refine g_aload_n hC dX9_merge_69 rfl 1 rfl (Or.inl rfl) ?_
              refine g_ifnull (o := none) (tgt := 78) hC dX9_merge_70 (by decide) (fun h70 => ?_) (fun a70 h70 => ?_)
              · refine g_aload_n hC dX9_merge_78 rfl 2 rfl (Or.inr ⟨_, rfl⟩) ?_
                refine g_iconst hC dX9_merge_79 (v := nI 1) (by decide) ?_
                refine g_Vx (As := [.int (nI 1)]) (st := []) hC 1 dX9_merge_80 rfl (hx0.M hM).1 (hx0.M hM).2 gX9_merge_X9_failed rfl (by decide +kernel) ⟨Nat.le_of_ble_eq_true rfl, Nat.le_of_ble_eq_true rfl⟩ rfl (Nat.le_of_ble_eq_true rfl) ⟨(show 0 + 0 ≤ (rmC S (s_merge S (nI pj) (nI qj)).2) by omega), (show 0 + 0 ≤ (rmS S (s_merge S (nI pj) (nI qj)).2) by omega)⟩ (c2 := 0) (s2 := 0) rfl rfl (x_failed hx0 M hM 1) (fun v1 L1 f1 hp1 => ?_)
                obtain ⟨rfl, hx1⟩ := hp1
                show gW X vwCl 8 L1 f1 0 0 83 [(4, .null), (3, .null), (0, .ref M), (1, .int (nI pj)), (2, .int (nI qj))] [.int (fA 1)]
                have hc_p : castF S pj 4 = 1 := by unfold castF isO; rw [hk_p] <;> decide
                have hc_q : castF S qj 4 = 1 := by unfold castF isO; rw [hk_q] <;> decide
                have hbf : bthF S pj qj 4 = 1 := by unfold bthF; rw [hc_p, hc_q] <;> decide
                have hE : s_merge S (nI pj) (nI qj) = (fA 1, (aSc (thS S) 1 1)) := by
                  unfold s_merge
                  rw [if_pos h4, if_pos h11, hpl_p, hpl_q, hbf, if_pos (show 0 < 1 by decide)] <;> rfl
                refine g_widen (c2 := (rmC S (s_merge S (nI pj) (nI qj)).2)) (s2 := (rmS S (s_merge S (nI pj) (nI qj)).2)) (show 0 ≤ (rmC S (s_merge S (nI pj) (nI qj)).2) by omega) (show 0 ≤ (rmS S (s_merge S (nI pj) (nI qj)).2) by omega) ?_
                exact g_iret hC hR dX9_merge_83 ⟨b, congrArg (fun z => some (Value.int (Prod.fst z))) hE.symm, by rw [hE]; exact hx1, xG.rf⟩
              · cases h70
            · exfalso; omega
          · have hw_q : wh S qj < S.1 4 := hI.wl hqj hk_q
            have hp0_q : plcF (thS S) b qj = some (b.1 0 (wh S qj)) := plc_k hqj hk_q (by decide)
            refine g_aald hC 5 rfl (hx0.Mp rfl).1 (hx0.Mp rfl).2 (qj) rfl (show qj < 10 by omega) (by decide) dX9_merge_34 ?_
            refine g_val (w := .ref (b.1 0 (wh S qj))) (congrArg va_rf hp0_q) ?_
            refine g_iconst hC dX9_merge_35 (v := nI 4) (by decide) ?_
            refine g_S (As := [.ref (b.1 0 (wh S qj)), .int (nI 4)]) (st := []) hC 2 dX9_merge_36 gX9_merge_X9_mayBeCast rfl (by decide +kernel) ⟨Nat.le_of_ble_eq_true rfl, Nat.le_of_ble_eq_true rfl⟩ rfl (Nat.le_of_ble_eq_true rfl) ⟨(show 0 + 0 ≤ (rmC S (s_merge S (nI pj) (nI qj)).2) by omega), (show 0 + 0 ≤ (rmS S (s_merge S (nI pj) (nI qj)).2) by omega)⟩ (c2 := 0) (s2 := 0) rfl rfl (x_mayBeCast (some (b.1 0 (wh S qj))) 1 (Or.inr ⟨_, 0, _, rfl, (hx0.B hw_q rfl), Or.inl ⟨rfl, rfl⟩⟩) 4 (by decide)) ?_
            refine g_ifN_ne (a := 0) (tgt := 48) hC dX9_merge_39 (by decide) (by omega) (fun h39 => ?_) (fun h39 => ?_)
            · exfalso; omega
            · refine g_aload_n hC dX9_merge_42 rfl 0 rfl (Or.inr ⟨_, rfl⟩) ?_
              refine g_iconst hC dX9_merge_43 (v := nI 2) (by decide) ?_
              refine g_Vx (As := [.int (nI 2)]) (st := []) hC 1 dX9_merge_44 rfl (hx0.M hM).1 (hx0.M hM).2 gX9_merge_X9_failed rfl (by decide +kernel) ⟨Nat.le_of_ble_eq_true rfl, Nat.le_of_ble_eq_true rfl⟩ rfl (Nat.le_of_ble_eq_true rfl) ⟨(show 0 + 0 ≤ (rmC S (s_merge S (nI pj) (nI qj)).2) by omega), (show 0 + 0 ≤ (rmS S (s_merge S (nI pj) (nI qj)).2) by omega)⟩ (c2 := 0) (s2 := 0) rfl rfl (x_failed hx0 M hM 2) (fun v1 L1 f1 hp1 => ?_)
              obtain ⟨rfl, hx1⟩ := hp1
              show gW X vwCl 8 L1 f1 0 0 47 [(0, .ref M), (1, .int (nI pj)), (2, .int (nI qj))] [.int (fA 2)]
              have hc_p : castF S pj 4 = 1 := by unfold castF isO; rw [hk_p] <;> decide
              have hc_q : castF S qj 4 = 2 := by unfold castF isO; rw [hk_q] <;> decide
              have hbf : bthF S pj qj 4 = 2 := by unfold bthF; rw [hc_p, hc_q] <;> decide
              have hE : s_merge S (nI pj) (nI qj) = (fA 2, (aSc (thS S) 1 2)) := by
                unfold s_merge
                rw [if_pos h4, if_pos h11, hpl_p, hpl_q, hbf, if_pos (show 0 < 2 by decide)] <;> rfl
              refine g_widen (c2 := (rmC S (s_merge S (nI pj) (nI qj)).2)) (s2 := (rmS S (s_merge S (nI pj) (nI qj)).2)) (show 0 ≤ (rmC S (s_merge S (nI pj) (nI qj)).2) by omega) (show 0 ≤ (rmS S (s_merge S (nI pj) (nI qj)).2) by omega) ?_
              exact g_iret hC hR dX9_merge_47 ⟨b, congrArg (fun z => some (Value.int (Prod.fst z))) hE.symm, by rw [hE]; exact hx1, xG.rf⟩
          · have hw_q : wh S qj < S.1 7 := hI.ws hqj hk_q
            have hp0_q : plcF (thS S) b qj = some (b.1 2 (wh S qj)) := plc_k hqj hk_q (by decide)
            refine g_aald hC 5 rfl (hx0.Mp rfl).1 (hx0.Mp rfl).2 (qj) rfl (show qj < 10 by omega) (by decide) dX9_merge_34 ?_
            refine g_val (w := .ref (b.1 2 (wh S qj))) (congrArg va_rf hp0_q) ?_
            refine g_iconst hC dX9_merge_35 (v := nI 4) (by decide) ?_
            refine g_S (As := [.ref (b.1 2 (wh S qj)), .int (nI 4)]) (st := []) hC 2 dX9_merge_36 gX9_merge_X9_mayBeCast rfl (by decide +kernel) ⟨Nat.le_of_ble_eq_true rfl, Nat.le_of_ble_eq_true rfl⟩ rfl (Nat.le_of_ble_eq_true rfl) ⟨(show 0 + 0 ≤ (rmC S (s_merge S (nI pj) (nI qj)).2) by omega), (show 0 + 0 ≤ (rmS S (s_merge S (nI pj) (nI qj)).2) by omega)⟩ (c2 := 0) (s2 := 0) rfl rfl (x_mayBeCast (some (b.1 2 (wh S qj))) 2 (Or.inr ⟨_, 4, _, rfl, (hx0.G hw_q rfl), Or.inr (Or.inl ⟨rfl, rfl⟩)⟩) 4 (by decide)) ?_
            refine g_ifN_ne (a := 0) (tgt := 48) hC dX9_merge_39 (by decide) (by omega) (fun h39 => ?_) (fun h39 => ?_)
            · exfalso; omega
            · refine g_aload_n hC dX9_merge_42 rfl 0 rfl (Or.inr ⟨_, rfl⟩) ?_
              refine g_iconst hC dX9_merge_43 (v := nI 2) (by decide) ?_
              refine g_Vx (As := [.int (nI 2)]) (st := []) hC 1 dX9_merge_44 rfl (hx0.M hM).1 (hx0.M hM).2 gX9_merge_X9_failed rfl (by decide +kernel) ⟨Nat.le_of_ble_eq_true rfl, Nat.le_of_ble_eq_true rfl⟩ rfl (Nat.le_of_ble_eq_true rfl) ⟨(show 0 + 0 ≤ (rmC S (s_merge S (nI pj) (nI qj)).2) by omega), (show 0 + 0 ≤ (rmS S (s_merge S (nI pj) (nI qj)).2) by omega)⟩ (c2 := 0) (s2 := 0) rfl rfl (x_failed hx0 M hM 2) (fun v1 L1 f1 hp1 => ?_)
              obtain ⟨rfl, hx1⟩ := hp1
              show gW X vwCl 8 L1 f1 0 0 47 [(0, .ref M), (1, .int (nI pj)), (2, .int (nI qj))] [.int (fA 2)]
              have hc_p : castF S pj 4 = 1 := by unfold castF isO; rw [hk_p] <;> decide
              have hc_q : castF S qj 4 = 2 := by unfold castF isO; rw [hk_q] <;> decide
              have hbf : bthF S pj qj 4 = 2 := by unfold bthF; rw [hc_p, hc_q] <;> decide
              have hE : s_merge S (nI pj) (nI qj) = (fA 2, (aSc (thS S) 1 2)) := by
                unfold s_merge
                rw [if_pos h4, if_pos h11, hpl_p, hpl_q, hbf, if_pos (show 0 < 2 by decide)] <;> rfl
              refine g_widen (c2 := (rmC S (s_merge S (nI pj) (nI qj)).2)) (s2 := (rmS S (s_merge S (nI pj) (nI qj)).2)) (show 0 ≤ (rmC S (s_merge S (nI pj) (nI qj)).2) by omega) (show 0 ≤ (rmS S (s_merge S (nI pj) (nI qj)).2) by omega) ?_
              exact g_iret hC hR dX9_merge_47 ⟨b, congrArg (fun z => some (Value.int (Prod.fst z))) hE.symm, by rw [hE]; exact hx1, xG.rf⟩
          · have hw_q : wh S qj < S.1 10 := hI.wr hqj hk_q
            have hp0_q : plcF (thS S) b qj = some (b.1 4 (wh S qj)) := plc_k hqj hk_q (by decide)
            refine g_aald hC 5 rfl (hx0.Mp rfl).1 (hx0.Mp rfl).2 (qj) rfl (show qj < 10 by omega) (by decide) dX9_merge_34 ?_
            refine g_val (w := .ref (b.1 4 (wh S qj))) (congrArg va_rf hp0_q) ?_
            refine g_iconst hC dX9_merge_35 (v := nI 4) (by decide) ?_
            refine g_S (As := [.ref (b.1 4 (wh S qj)), .int (nI 4)]) (st := []) hC 2 dX9_merge_36 gX9_merge_X9_mayBeCast rfl (by decide +kernel) ⟨Nat.le_of_ble_eq_true rfl, Nat.le_of_ble_eq_true rfl⟩ rfl (Nat.le_of_ble_eq_true rfl) ⟨(show 0 + 0 ≤ (rmC S (s_merge S (nI pj) (nI qj)).2) by omega), (show 0 + 0 ≤ (rmS S (s_merge S (nI pj) (nI qj)).2) by omega)⟩ (c2 := 0) (s2 := 0) rfl rfl (x_mayBeCast (some (b.1 4 (wh S qj))) 3 (Or.inr ⟨_, 3, _, rfl, (hx0.W hw_q rfl), Or.inr (Or.inr (Or.inl ⟨rfl, rfl⟩))⟩) 4 (by decide)) ?_
            refine g_ifN_ne (a := 0) (tgt := 48) hC dX9_merge_39 (by decide) (by omega) (fun h39 => ?_) (fun h39 => ?_)
            · exfalso; omega
            · refine g_aload_n hC dX9_merge_42 rfl 0 rfl (Or.inr ⟨_, rfl⟩) ?_
              refine g_iconst hC dX9_merge_43 (v := nI 2) (by decide) ?_
              refine g_Vx (As := [.int (nI 2)]) (st := []) hC 1 dX9_merge_44 rfl (hx0.M hM).1 (hx0.M hM).2 gX9_merge_X9_failed rfl (by decide +kernel) ⟨Nat.le_of_ble_eq_true rfl, Nat.le_of_ble_eq_true rfl⟩ rfl (Nat.le_of_ble_eq_true rfl) ⟨(show 0 + 0 ≤ (rmC S (s_merge S (nI pj) (nI qj)).2) by omega), (show 0 + 0 ≤ (rmS S (s_merge S (nI pj) (nI qj)).2) by omega)⟩ (c2 := 0) (s2 := 0) rfl rfl (x_failed hx0 M hM 2) (fun v1 L1 f1 hp1 => ?_)
              obtain ⟨rfl, hx1⟩ := hp1
              show gW X vwCl 8 L1 f1 0 0 47 [(0, .ref M), (1, .int (nI pj)), (2, .int (nI qj))] [.int (fA 2)]
              have hc_p : castF S pj 4 = 1 := by unfold castF isO; rw [hk_p] <;> decide
              have hc_q : castF S qj 4 = 2 := by unfold castF isO; rw [hk_q] <;> decide
              have hbf : bthF S pj qj 4 = 2 := by unfold bthF; rw [hc_p, hc_q] <;> decide
              have hE : s_merge S (nI pj) (nI qj) = (fA 2, (aSc (thS S) 1 2)) := by
                unfold s_merge
                rw [if_pos h4, if_pos h11, hpl_p, hpl_q, hbf, if_pos (show 0 < 2 by decide)] <;> rfl
              refine g_widen (c2 := (rmC S (s_merge S (nI pj) (nI qj)).2)) (s2 := (rmS S (s_merge S (nI pj) (nI qj)).2)) (show 0 ≤ (rmC S (s_merge S (nI pj) (nI qj)).2) by omega) (show 0 ≤ (rmS S (s_merge S (nI pj) (nI qj)).2) by omega) ?_
              exact g_iret hC hR dX9_merge_47 ⟨b, congrArg (fun z => some (Value.int (Prod.fst z))) hE.symm, by rw [hE]; exact hx1, xG.rf⟩
          · have hw_q : wh S qj < S.1 13 := hI.wt hqj (by omega)
            have hb_q : S.2.1 14 (wh S qj) = 0 := by have := ((hI.2.1 _ hqj).2.2.2.2.2 (by omega)).2; omega
            have hp0_q : plcF (thS S) b qj = some (b.1 6 (wh S qj)) := plc_k hqj hk_q (by decide)
            refine g_aald hC 5 rfl (hx0.Mp rfl).1 (hx0.Mp rfl).2 (qj) rfl (show qj < 10 by omega) (by decide) dX9_merge_34 ?_
            refine g_val (w := .ref (b.1 6 (wh S qj))) (congrArg va_rf hp0_q) ?_
            refine g_iconst hC dX9_merge_35 (v := nI 4) (by decide) ?_
            refine g_S (As := [.ref (b.1 6 (wh S qj)), .int (nI 4)]) (st := []) hC 2 dX9_merge_36 gX9_merge_X9_mayBeCast rfl (by decide +kernel) ⟨Nat.le_of_ble_eq_true rfl, Nat.le_of_ble_eq_true rfl⟩ rfl (Nat.le_of_ble_eq_true rfl) ⟨(show 0 + 0 ≤ (rmC S (s_merge S (nI pj) (nI qj)).2) by omega), (show 0 + 0 ≤ (rmS S (s_merge S (nI pj) (nI qj)).2) by omega)⟩ (c2 := 0) (s2 := 0) rfl rfl (x_mayBeCast (some (b.1 6 (wh S qj))) 4 (Or.inr ⟨_, 5, _, rfl, (hx0.T hw_q rfl hb_q), Or.inr (Or.inr (Or.inr (Or.inl ⟨rfl, rfl⟩)))⟩) 4 (by decide)) ?_
            refine g_ifN_ne (a := 1) (tgt := 48) hC dX9_merge_39 (by decide) (by omega) (fun h39 => ?_) (fun h39 => ?_)
            · refine g_aload_n hC dX9_merge_48 rfl 0 rfl (Or.inr ⟨_, rfl⟩) ?_
              refine g_get hC (by decide +kernel) rfl (hx0.M hM).1 (hx0.M hM).2 0 (by decide) (by decide +kernel) (Or.inl rfl) rfl dX9_merge_49 ?_
              refine g_iload_n hC dX9_merge_52 rfl 1 rfl ?_
              refine g_aald hC 5 rfl (hx0.Mp rfl).1 (hx0.Mp rfl).2 (pj) rfl (show pj < 10 by omega) (by decide) dX9_merge_53 ?_
              refine g_val (w := .null) (congrArg va_rf hp0_p) ?_
              refine g_S (As := [.null]) (st := []) hC 1 dX9_merge_54 gX9_merge_X9_asTable rfl (by decide +kernel) ⟨Nat.le_of_ble_eq_true rfl, Nat.le_of_ble_eq_true rfl⟩ rfl (Nat.le_of_ble_eq_true rfl) ⟨(show 0 + 0 ≤ (rmC S (s_merge S (nI pj) (nI qj)).2) by omega), (show 0 + 0 ≤ (rmS S (s_merge S (nI pj) (nI qj)).2) by omega)⟩ (c2 := 0) (s2 := 0) rfl rfl (x_asTable none 0 (Or.inl ⟨rfl, rfl⟩)) ?_
              refine g_astore_n (lv' := [(3, .null), (0, .ref M), (1, .int (nI pj)), (2, .int (nI qj))]) hC dX9_merge_57 rfl (by decide) rfl (Or.inl rfl) ?_
              refine g_aload_n hC dX9_merge_58 rfl 1 rfl (Or.inr ⟨_, rfl⟩) ?_
              refine g_get hC (by decide +kernel) rfl (hx0.M hM).1 (hx0.M hM).2 0 (by decide) (by decide +kernel) (Or.inl rfl) rfl dX9_merge_59 ?_
              refine g_iload_n hC dX9_merge_62 rfl 3 rfl ?_
              refine g_aald hC 5 rfl (hx0.Mp rfl).1 (hx0.Mp rfl).2 (qj) rfl (show qj < 10 by omega) (by decide) dX9_merge_63 ?_
              refine g_val (w := .ref (b.1 6 (wh S qj))) (congrArg va_rf hp0_q) ?_
              refine g_S (As := [.ref (b.1 6 (wh S qj))]) (st := []) hC 1 dX9_merge_64 gX9_merge_X9_asTable rfl (by decide +kernel) ⟨Nat.le_of_ble_eq_true rfl, Nat.le_of_ble_eq_true rfl⟩ rfl (Nat.le_of_ble_eq_true rfl) ⟨(show 0 + 0 ≤ (rmC S (s_merge S (nI pj) (nI qj)).2) by omega), (show 0 + 0 ≤ (rmS S (s_merge S (nI pj) (nI qj)).2) by omega)⟩ (c2 := 0) (s2 := 0) rfl rfl (x_asTable (some (b.1 6 (wh S qj))) 4 (Or.inr ⟨_, 5, _, rfl, (hx0.T hw_q rfl hb_q), Or.inr (Or.inr (Or.inr (Or.inl ⟨rfl, rfl⟩)))⟩)) ?_
              refine g_astore (lv' := [(4, .ref (b.1 6 (wh S qj))), (3, .null), (0, .ref M), (1, .int (nI pj)), (2, .int (nI qj))]) hC dX9_merge_67 (by decide) rfl (Or.inr ⟨_, rfl⟩) ?_
              refine g_aload_n hC dX9_merge_69 rfl 1 rfl (Or.inl rfl) ?_
              refine g_ifnull (o := none) (tgt := 78) hC dX9_merge_70 (by decide) (fun h70 => ?_) (fun a70 h70 => ?_)
              · refine g_aload_n hC dX9_merge_78 rfl 2 rfl (Or.inr ⟨_, rfl⟩) ?_
                refine g_iconst hC dX9_merge_79 (v := nI 1) (by decide) ?_
                refine g_Vx (As := [.int (nI 1)]) (st := []) hC 1 dX9_merge_80 rfl (hx0.M hM).1 (hx0.M hM).2 gX9_merge_X9_failed rfl (by decide +kernel) ⟨Nat.le_of_ble_eq_true rfl, Nat.le_of_ble_eq_true rfl⟩ rfl (Nat.le_of_ble_eq_true rfl) ⟨(show 0 + 0 ≤ (rmC S (s_merge S (nI pj) (nI qj)).2) by omega), (show 0 + 0 ≤ (rmS S (s_merge S (nI pj) (nI qj)).2) by omega)⟩ (c2 := 0) (s2 := 0) rfl rfl (x_failed hx0 M hM 1) (fun v1 L1 f1 hp1 => ?_)
                obtain ⟨rfl, hx1⟩ := hp1
                show gW X vwCl 8 L1 f1 0 0 83 [(4, .ref (b.1 6 (wh S qj))), (3, .null), (0, .ref M), (1, .int (nI pj)), (2, .int (nI qj))] [.int (fA 1)]
                have hc_p : castF S pj 4 = 1 := by unfold castF isO; rw [hk_p] <;> decide
                have hc_q : castF S qj 4 = 0 := by unfold castF isO; rw [hk_q] <;> decide
                have hbf : bthF S pj qj 4 = 1 := by unfold bthF; rw [hc_p, hc_q] <;> decide
                have hE : s_merge S (nI pj) (nI qj) = (fA 1, (aSc (thS S) 1 1)) := by
                  unfold s_merge
                  rw [if_pos h4, if_pos h11, hpl_p, hpl_q, hbf, if_pos (show 0 < 1 by decide)] <;> rfl
                refine g_widen (c2 := (rmC S (s_merge S (nI pj) (nI qj)).2)) (s2 := (rmS S (s_merge S (nI pj) (nI qj)).2)) (show 0 ≤ (rmC S (s_merge S (nI pj) (nI qj)).2) by omega) (show 0 ≤ (rmS S (s_merge S (nI pj) (nI qj)).2) by omega) ?_
                exact g_iret hC hR dX9_merge_83 ⟨b, congrArg (fun z => some (Value.int (Prod.fst z))) hE.symm, by rw [hE]; exact hx1, xG.rf⟩
              · cases h70
            · exfalso; omega
          · have hw_q : wh S qj < S.1 13 := hI.wt hqj (by omega)
            have hb_q : S.2.1 14 (wh S qj) ≠ 0 := by have := ((hI.2.1 _ hqj).2.2.2.2.2 (by omega)).2; omega
            have hp0_q : plcF (thS S) b qj = some (b.1 6 (wh S qj)) := plc_k hqj hk_q (by decide)
            refine g_aald hC 5 rfl (hx0.Mp rfl).1 (hx0.Mp rfl).2 (qj) rfl (show qj < 10 by omega) (by decide) dX9_merge_34 ?_
            refine g_val (w := .ref (b.1 6 (wh S qj))) (congrArg va_rf hp0_q) ?_
            refine g_iconst hC dX9_merge_35 (v := nI 4) (by decide) ?_
            refine g_S (As := [.ref (b.1 6 (wh S qj)), .int (nI 4)]) (st := []) hC 2 dX9_merge_36 gX9_merge_X9_mayBeCast rfl (by decide +kernel) ⟨Nat.le_of_ble_eq_true rfl, Nat.le_of_ble_eq_true rfl⟩ rfl (Nat.le_of_ble_eq_true rfl) ⟨(show 0 + 0 ≤ (rmC S (s_merge S (nI pj) (nI qj)).2) by omega), (show 0 + 0 ≤ (rmS S (s_merge S (nI pj) (nI qj)).2) by omega)⟩ (c2 := 0) (s2 := 0) rfl rfl (x_mayBeCast (some (b.1 6 (wh S qj))) 5 (Or.inr ⟨_, 1, _, rfl, (hx0.K hw_q rfl hb_q), Or.inr (Or.inr (Or.inr (Or.inr ⟨rfl, rfl⟩)))⟩) 4 (by decide)) ?_
            refine g_ifN_ne (a := 1) (tgt := 48) hC dX9_merge_39 (by decide) (by omega) (fun h39 => ?_) (fun h39 => ?_)
            · refine g_aload_n hC dX9_merge_48 rfl 0 rfl (Or.inr ⟨_, rfl⟩) ?_
              refine g_get hC (by decide +kernel) rfl (hx0.M hM).1 (hx0.M hM).2 0 (by decide) (by decide +kernel) (Or.inl rfl) rfl dX9_merge_49 ?_
              refine g_iload_n hC dX9_merge_52 rfl 1 rfl ?_
              refine g_aald hC 5 rfl (hx0.Mp rfl).1 (hx0.Mp rfl).2 (pj) rfl (show pj < 10 by omega) (by decide) dX9_merge_53 ?_
              refine g_val (w := .null) (congrArg va_rf hp0_p) ?_
              refine g_S (As := [.null]) (st := []) hC 1 dX9_merge_54 gX9_merge_X9_asTable rfl (by decide +kernel) ⟨Nat.le_of_ble_eq_true rfl, Nat.le_of_ble_eq_true rfl⟩ rfl (Nat.le_of_ble_eq_true rfl) ⟨(show 0 + 0 ≤ (rmC S (s_merge S (nI pj) (nI qj)).2) by omega), (show 0 + 0 ≤ (rmS S (s_merge S (nI pj) (nI qj)).2) by omega)⟩ (c2 := 0) (s2 := 0) rfl rfl (x_asTable none 0 (Or.inl ⟨rfl, rfl⟩)) ?_
              refine g_astore_n (lv' := [(3, .null), (0, .ref M), (1, .int (nI pj)), (2, .int (nI qj))]) hC dX9_merge_57 rfl (by decide) rfl (Or.inl rfl) ?_
              refine g_aload_n hC dX9_merge_58 rfl 1 rfl (Or.inr ⟨_, rfl⟩) ?_
              refine g_get hC (by decide +kernel) rfl (hx0.M hM).1 (hx0.M hM).2 0 (by decide) (by decide +kernel) (Or.inl rfl) rfl dX9_merge_59 ?_
              refine g_iload_n hC dX9_merge_62 rfl 3 rfl ?_
              refine g_aald hC 5 rfl (hx0.Mp rfl).1 (hx0.Mp rfl).2 (qj) rfl (show qj < 10 by omega) (by decide) dX9_merge_63 ?_
              refine g_val (w := .ref (b.1 6 (wh S qj))) (congrArg va_rf hp0_q) ?_
              refine g_S (As := [.ref (b.1 6 (wh S qj))]) (st := []) hC 1 dX9_merge_64 gX9_merge_X9_asTable rfl (by decide +kernel) ⟨Nat.le_of_ble_eq_true rfl, Nat.le_of_ble_eq_true rfl⟩ rfl (Nat.le_of_ble_eq_true rfl) ⟨(show 0 + 0 ≤ (rmC S (s_merge S (nI pj) (nI qj)).2) by omega), (show 0 + 0 ≤ (rmS S (s_merge S (nI pj) (nI qj)).2) by omega)⟩ (c2 := 0) (s2 := 0) rfl rfl (x_asTable (some (b.1 6 (wh S qj))) 5 (Or.inr ⟨_, 1, _, rfl, (hx0.K hw_q rfl hb_q), Or.inr (Or.inr (Or.inr (Or.inr ⟨rfl, rfl⟩)))⟩)) ?_
              refine g_astore (lv' := [(4, .ref (b.1 6 (wh S qj))), (3, .null), (0, .ref M), (1, .int (nI pj)), (2, .int (nI qj))]) hC dX9_merge_67 (by decide) rfl (Or.inr ⟨_, rfl⟩) ?_
              refine g_aload_n hC dX9_merge_69 rfl 1 rfl (Or.inl rfl) ?_
              refine g_ifnull (o := none) (tgt := 78) hC dX9_merge_70 (by decide) (fun h70 => ?_) (fun a70 h70 => ?_)
              · refine g_aload_n hC dX9_merge_78 rfl 2 rfl (Or.inr ⟨_, rfl⟩) ?_
                refine g_iconst hC dX9_merge_79 (v := nI 1) (by decide) ?_
                refine g_Vx (As := [.int (nI 1)]) (st := []) hC 1 dX9_merge_80 rfl (hx0.M hM).1 (hx0.M hM).2 gX9_merge_X9_failed rfl (by decide +kernel) ⟨Nat.le_of_ble_eq_true rfl, Nat.le_of_ble_eq_true rfl⟩ rfl (Nat.le_of_ble_eq_true rfl) ⟨(show 0 + 0 ≤ (rmC S (s_merge S (nI pj) (nI qj)).2) by omega), (show 0 + 0 ≤ (rmS S (s_merge S (nI pj) (nI qj)).2) by omega)⟩ (c2 := 0) (s2 := 0) rfl rfl (x_failed hx0 M hM 1) (fun v1 L1 f1 hp1 => ?_)
                obtain ⟨rfl, hx1⟩ := hp1
                show gW X vwCl 8 L1 f1 0 0 83 [(4, .ref (b.1 6 (wh S qj))), (3, .null), (0, .ref M), (1, .int (nI pj)), (2, .int (nI qj))] [.int (fA 1)]
                have hc_p : castF S pj 4 = 1 := by unfold castF isO; rw [hk_p] <;> decide
                have hc_q : castF S qj 4 = 0 := by unfold castF isO; rw [hk_q] <;> decide
                have hbf : bthF S pj qj 4 = 1 := by unfold bthF; rw [hc_p, hc_q] <;> decide
                have hE : s_merge S (nI pj) (nI qj) = (fA 1, (aSc (thS S) 1 1)) := by
                  unfold s_merge
                  rw [if_pos h4, if_pos h11, hpl_p, hpl_q, hbf, if_pos (show 0 < 1 by decide)] <;> rfl
                refine g_widen (c2 := (rmC S (s_merge S (nI pj) (nI qj)).2)) (s2 := (rmS S (s_merge S (nI pj) (nI qj)).2)) (show 0 ≤ (rmC S (s_merge S (nI pj) (nI qj)).2) by omega) (show 0 ≤ (rmS S (s_merge S (nI pj) (nI qj)).2) by omega) ?_
                exact g_iret hC hR dX9_merge_83 ⟨b, congrArg (fun z => some (Value.int (Prod.fst z))) hE.symm, by rw [hE]; exact hx1, xG.rf⟩
              · cases h70
            · exfalso; omega
      · have hw_p : wh S pj < S.1 4 := hI.wl hpj hk_p
        have hp0_p : plcF (thS S) b pj = some (b.1 0 (wh S pj)) := plc_k hpj hk_p (by decide)
        refine g_aald hC 5 rfl (hx0.Mp rfl).1 (hx0.Mp rfl).2 (pj) rfl (show pj < 10 by omega) (by decide) dX9_merge_21 ?_
        refine g_val (w := .ref (b.1 0 (wh S pj))) (congrArg va_rf hp0_p) ?_
        refine g_iconst hC dX9_merge_22 (v := nI 4) (by decide) ?_
        refine g_S (As := [.ref (b.1 0 (wh S pj)), .int (nI 4)]) (st := []) hC 2 dX9_merge_23 gX9_merge_X9_mayBeCast rfl (by decide +kernel) ⟨Nat.le_of_ble_eq_true rfl, Nat.le_of_ble_eq_true rfl⟩ rfl (Nat.le_of_ble_eq_true rfl) ⟨(show 0 + 0 ≤ (rmC S (s_merge S (nI pj) (nI qj)).2) by omega), (show 0 + 0 ≤ (rmS S (s_merge S (nI pj) (nI qj)).2) by omega)⟩ (c2 := 0) (s2 := 0) rfl rfl (x_mayBeCast (some (b.1 0 (wh S pj))) 1 (Or.inr ⟨_, 0, _, rfl, (hx0.B hw_p rfl), Or.inl ⟨rfl, rfl⟩⟩) 4 (by decide)) ?_
        refine g_ifN_eq (a := 0) (tgt := 42) hC dX9_merge_26 (by decide) (by omega) (fun h26 => ?_) (fun h26 => ?_)
        · refine g_aload_n hC dX9_merge_42 rfl 0 rfl (Or.inr ⟨_, rfl⟩) ?_
          refine g_iconst hC dX9_merge_43 (v := nI 2) (by decide) ?_
          refine g_Vx (As := [.int (nI 2)]) (st := []) hC 1 dX9_merge_44 rfl (hx0.M hM).1 (hx0.M hM).2 gX9_merge_X9_failed rfl (by decide +kernel) ⟨Nat.le_of_ble_eq_true rfl, Nat.le_of_ble_eq_true rfl⟩ rfl (Nat.le_of_ble_eq_true rfl) ⟨(show 0 + 0 ≤ (rmC S (s_merge S (nI pj) (nI qj)).2) by omega), (show 0 + 0 ≤ (rmS S (s_merge S (nI pj) (nI qj)).2) by omega)⟩ (c2 := 0) (s2 := 0) rfl rfl (x_failed hx0 M hM 2) (fun v1 L1 f1 hp1 => ?_)
          obtain ⟨rfl, hx1⟩ := hp1
          show gW X vwCl 8 L1 f1 0 0 47 [(0, .ref M), (1, .int (nI pj)), (2, .int (nI qj))] [.int (fA 2)]
          have hc_p : castF S pj 4 = 2 := by unfold castF isO; rw [hk_p] <;> decide
          have hbf : bthF S pj qj 4 = 2 := if_pos (Or.inl hc_p)
          have hE : s_merge S (nI pj) (nI qj) = (fA 2, (aSc (thS S) 1 2)) := by
            unfold s_merge
            rw [if_pos h4, if_pos h11, hpl_p, hpl_q, hbf, if_pos (show 0 < 2 by decide)] <;> rfl
          refine g_widen (c2 := (rmC S (s_merge S (nI pj) (nI qj)).2)) (s2 := (rmS S (s_merge S (nI pj) (nI qj)).2)) (show 0 ≤ (rmC S (s_merge S (nI pj) (nI qj)).2) by omega) (show 0 ≤ (rmS S (s_merge S (nI pj) (nI qj)).2) by omega) ?_
          exact g_iret hC hR dX9_merge_47 ⟨b, congrArg (fun z => some (Value.int (Prod.fst z))) hE.symm, by rw [hE]; exact hx1, xG.rf⟩
        · exfalso; omega
      · have hw_p : wh S pj < S.1 7 := hI.ws hpj hk_p
        have hp0_p : plcF (thS S) b pj = some (b.1 2 (wh S pj)) := plc_k hpj hk_p (by decide)
        refine g_aald hC 5 rfl (hx0.Mp rfl).1 (hx0.Mp rfl).2 (pj) rfl (show pj < 10 by omega) (by decide) dX9_merge_21 ?_
        refine g_val (w := .ref (b.1 2 (wh S pj))) (congrArg va_rf hp0_p) ?_
        refine g_iconst hC dX9_merge_22 (v := nI 4) (by decide) ?_
        refine g_S (As := [.ref (b.1 2 (wh S pj)), .int (nI 4)]) (st := []) hC 2 dX9_merge_23 gX9_merge_X9_mayBeCast rfl (by decide +kernel) ⟨Nat.le_of_ble_eq_true rfl, Nat.le_of_ble_eq_true rfl⟩ rfl (Nat.le_of_ble_eq_true rfl) ⟨(show 0 + 0 ≤ (rmC S (s_merge S (nI pj) (nI qj)).2) by omega), (show 0 + 0 ≤ (rmS S (s_merge S (nI pj) (nI qj)).2) by omega)⟩ (c2 := 0) (s2 := 0) rfl rfl (x_mayBeCast (some (b.1 2 (wh S pj))) 2 (Or.inr ⟨_, 4, _, rfl, (hx0.G hw_p rfl), Or.inr (Or.inl ⟨rfl, rfl⟩)⟩) 4 (by decide)) ?_
        refine g_ifN_eq (a := 0) (tgt := 42) hC dX9_merge_26 (by decide) (by omega) (fun h26 => ?_) (fun h26 => ?_)
        · refine g_aload_n hC dX9_merge_42 rfl 0 rfl (Or.inr ⟨_, rfl⟩) ?_
          refine g_iconst hC dX9_merge_43 (v := nI 2) (by decide) ?_
          refine g_Vx (As := [.int (nI 2)]) (st := []) hC 1 dX9_merge_44 rfl (hx0.M hM).1 (hx0.M hM).2 gX9_merge_X9_failed rfl (by decide +kernel) ⟨Nat.le_of_ble_eq_true rfl, Nat.le_of_ble_eq_true rfl⟩ rfl (Nat.le_of_ble_eq_true rfl) ⟨(show 0 + 0 ≤ (rmC S (s_merge S (nI pj) (nI qj)).2) by omega), (show 0 + 0 ≤ (rmS S (s_merge S (nI pj) (nI qj)).2) by omega)⟩ (c2 := 0) (s2 := 0) rfl rfl (x_failed hx0 M hM 2) (fun v1 L1 f1 hp1 => ?_)
          obtain ⟨rfl, hx1⟩ := hp1
          show gW X vwCl 8 L1 f1 0 0 47 [(0, .ref M), (1, .int (nI pj)), (2, .int (nI qj))] [.int (fA 2)]
          have hc_p : castF S pj 4 = 2 := by unfold castF isO; rw [hk_p] <;> decide
          have hbf : bthF S pj qj 4 = 2 := if_pos (Or.inl hc_p)
          have hE : s_merge S (nI pj) (nI qj) = (fA 2, (aSc (thS S) 1 2)) := by
            unfold s_merge
            rw [if_pos h4, if_pos h11, hpl_p, hpl_q, hbf, if_pos (show 0 < 2 by decide)] <;> rfl
          refine g_widen (c2 := (rmC S (s_merge S (nI pj) (nI qj)).2)) (s2 := (rmS S (s_merge S (nI pj) (nI qj)).2)) (show 0 ≤ (rmC S (s_merge S (nI pj) (nI qj)).2) by omega) (show 0 ≤ (rmS S (s_merge S (nI pj) (nI qj)).2) by omega) ?_
          exact g_iret hC hR dX9_merge_47 ⟨b, congrArg (fun z => some (Value.int (Prod.fst z))) hE.symm, by rw [hE]; exact hx1, xG.rf⟩
        · exfalso; omega
      · have hw_p : wh S pj < S.1 10 := hI.wr hpj hk_p
        have hp0_p : plcF (thS S) b pj = some (b.1 4 (wh S pj)) := plc_k hpj hk_p (by decide)
        refine g_aald hC 5 rfl (hx0.Mp rfl).1 (hx0.Mp rfl).2 (pj) rfl (show pj < 10 by omega) (by decide) dX9_merge_21 ?_
        refine g_val (w := .ref (b.1 4 (wh S pj))) (congrArg va_rf hp0_p) ?_
        refine g_iconst hC dX9_merge_22 (v := nI 4) (by decide) ?_
        refine g_S (As := [.ref (b.1 4 (wh S pj)), .int (nI 4)]) (st := []) hC 2 dX9_merge_23 gX9_merge_X9_mayBeCast rfl (by decide +kernel) ⟨Nat.le_of_ble_eq_true rfl, Nat.le_of_ble_eq_true rfl⟩ rfl (Nat.le_of_ble_eq_true rfl) ⟨(show 0 + 0 ≤ (rmC S (s_merge S (nI pj) (nI qj)).2) by omega), (show 0 + 0 ≤ (rmS S (s_merge S (nI pj) (nI qj)).2) by omega)⟩ (c2 := 0) (s2 := 0) rfl rfl (x_mayBeCast (some (b.1 4 (wh S pj))) 3 (Or.inr ⟨_, 3, _, rfl, (hx0.W hw_p rfl), Or.inr (Or.inr (Or.inl ⟨rfl, rfl⟩))⟩) 4 (by decide)) ?_
        refine g_ifN_eq (a := 0) (tgt := 42) hC dX9_merge_26 (by decide) (by omega) (fun h26 => ?_) (fun h26 => ?_)
        · refine g_aload_n hC dX9_merge_42 rfl 0 rfl (Or.inr ⟨_, rfl⟩) ?_
          refine g_iconst hC dX9_merge_43 (v := nI 2) (by decide) ?_
          refine g_Vx (As := [.int (nI 2)]) (st := []) hC 1 dX9_merge_44 rfl (hx0.M hM).1 (hx0.M hM).2 gX9_merge_X9_failed rfl (by decide +kernel) ⟨Nat.le_of_ble_eq_true rfl, Nat.le_of_ble_eq_true rfl⟩ rfl (Nat.le_of_ble_eq_true rfl) ⟨(show 0 + 0 ≤ (rmC S (s_merge S (nI pj) (nI qj)).2) by omega), (show 0 + 0 ≤ (rmS S (s_merge S (nI pj) (nI qj)).2) by omega)⟩ (c2 := 0) (s2 := 0) rfl rfl (x_failed hx0 M hM 2) (fun v1 L1 f1 hp1 => ?_)
          obtain ⟨rfl, hx1⟩ := hp1
          show gW X vwCl 8 L1 f1 0 0 47 [(0, .ref M), (1, .int (nI pj)), (2, .int (nI qj))] [.int (fA 2)]
          have hc_p : castF S pj 4 = 2 := by unfold castF isO; rw [hk_p] <;> decide
          have hbf : bthF S pj qj 4 = 2 := if_pos (Or.inl hc_p)
          have hE : s_merge S (nI pj) (nI qj) = (fA 2, (aSc (thS S) 1 2)) := by
            unfold s_merge
            rw [if_pos h4, if_pos h11, hpl_p, hpl_q, hbf, if_pos (show 0 < 2 by decide)] <;> rfl
          refine g_widen (c2 := (rmC S (s_merge S (nI pj) (nI qj)).2)) (s2 := (rmS S (s_merge S (nI pj) (nI qj)).2)) (show 0 ≤ (rmC S (s_merge S (nI pj) (nI qj)).2) by omega) (show 0 ≤ (rmS S (s_merge S (nI pj) (nI qj)).2) by omega) ?_
          exact g_iret hC hR dX9_merge_47 ⟨b, congrArg (fun z => some (Value.int (Prod.fst z))) hE.symm, by rw [hE]; exact hx1, xG.rf⟩
        · exfalso; omega
      · have hw_p : wh S pj < S.1 13 := hI.wt hpj (by omega)
        have hb_p : S.2.1 14 (wh S pj) = 0 := by have := ((hI.2.1 _ hpj).2.2.2.2.2 (by omega)).2; omega
        have hp0_p : plcF (thS S) b pj = some (b.1 6 (wh S pj)) := plc_k hpj hk_p (by decide)
        refine g_aald hC 5 rfl (hx0.Mp rfl).1 (hx0.Mp rfl).2 (pj) rfl (show pj < 10 by omega) (by decide) dX9_merge_21 ?_
        refine g_val (w := .ref (b.1 6 (wh S pj))) (congrArg va_rf hp0_p) ?_
        refine g_iconst hC dX9_merge_22 (v := nI 4) (by decide) ?_
        refine g_S (As := [.ref (b.1 6 (wh S pj)), .int (nI 4)]) (st := []) hC 2 dX9_merge_23 gX9_merge_X9_mayBeCast rfl (by decide +kernel) ⟨Nat.le_of_ble_eq_true rfl, Nat.le_of_ble_eq_true rfl⟩ rfl (Nat.le_of_ble_eq_true rfl) ⟨(show 0 + 0 ≤ (rmC S (s_merge S (nI pj) (nI qj)).2) by omega), (show 0 + 0 ≤ (rmS S (s_merge S (nI pj) (nI qj)).2) by omega)⟩ (c2 := 0) (s2 := 0) rfl rfl (x_mayBeCast (some (b.1 6 (wh S pj))) 4 (Or.inr ⟨_, 5, _, rfl, (hx0.T hw_p rfl hb_p), Or.inr (Or.inr (Or.inr (Or.inl ⟨rfl, rfl⟩)))⟩) 4 (by decide)) ?_
        refine g_ifN_eq (a := 1) (tgt := 42) hC dX9_merge_26 (by decide) (by omega) (fun h26 => ?_) (fun h26 => ?_)
        · exfalso; omega
        · refine g_aload_n hC dX9_merge_29 rfl 0 rfl (Or.inr ⟨_, rfl⟩) ?_
          refine g_get hC (by decide +kernel) rfl (hx0.M hM).1 (hx0.M hM).2 0 (by decide) (by decide +kernel) (Or.inl rfl) rfl dX9_merge_30 ?_
          refine g_iload_n hC dX9_merge_33 rfl 2 rfl ?_
          have h5_q := hI.k5 hqj
          rcases (show kd S qj = 0 ∨ kd S qj = 1 ∨ kd S qj = 2 ∨ kd S qj = 3 ∨ kd S qj = 4 ∨ kd S qj = 5 by omega) with hk_q | hk_q | hk_q | hk_q | hk_q | hk_q
          · have hp0_q : plcF (thS S) b qj = none := plc_0 hqj hk_q
            refine g_aald hC 5 rfl (hx0.Mp rfl).1 (hx0.Mp rfl).2 (qj) rfl (show qj < 10 by omega) (by decide) dX9_merge_34 ?_
            refine g_val (w := .null) (congrArg va_rf hp0_q) ?_
            refine g_iconst hC dX9_merge_35 (v := nI 4) (by decide) ?_
            refine g_S (As := [.null, .int (nI 4)]) (st := []) hC 2 dX9_merge_36 gX9_merge_X9_mayBeCast rfl (by decide +kernel) ⟨Nat.le_of_ble_eq_true rfl, Nat.le_of_ble_eq_true rfl⟩ rfl (Nat.le_of_ble_eq_true rfl) ⟨(show 0 + 0 ≤ (rmC S (s_merge S (nI pj) (nI qj)).2) by omega), (show 0 + 0 ≤ (rmS S (s_merge S (nI pj) (nI qj)).2) by omega)⟩ (c2 := 0) (s2 := 0) rfl rfl (x_mayBeCast none 0 (Or.inl ⟨rfl, rfl⟩) 4 (by decide)) ?_
            refine g_ifN_ne (a := 1) (tgt := 48) hC dX9_merge_39 (by decide) (by omega) (fun h39 => ?_) (fun h39 => ?_)
            · refine g_aload_n hC dX9_merge_48 rfl 0 rfl (Or.inr ⟨_, rfl⟩) ?_
              refine g_get hC (by decide +kernel) rfl (hx0.M hM).1 (hx0.M hM).2 0 (by decide) (by decide +kernel) (Or.inl rfl) rfl dX9_merge_49 ?_
              refine g_iload_n hC dX9_merge_52 rfl 1 rfl ?_
              refine g_aald hC 5 rfl (hx0.Mp rfl).1 (hx0.Mp rfl).2 (pj) rfl (show pj < 10 by omega) (by decide) dX9_merge_53 ?_
              refine g_val (w := .ref (b.1 6 (wh S pj))) (congrArg va_rf hp0_p) ?_
              refine g_S (As := [.ref (b.1 6 (wh S pj))]) (st := []) hC 1 dX9_merge_54 gX9_merge_X9_asTable rfl (by decide +kernel) ⟨Nat.le_of_ble_eq_true rfl, Nat.le_of_ble_eq_true rfl⟩ rfl (Nat.le_of_ble_eq_true rfl) ⟨(show 0 + 0 ≤ (rmC S (s_merge S (nI pj) (nI qj)).2) by omega), (show 0 + 0 ≤ (rmS S (s_merge S (nI pj) (nI qj)).2) by omega)⟩ (c2 := 0) (s2 := 0) rfl rfl (x_asTable (some (b.1 6 (wh S pj))) 4 (Or.inr ⟨_, 5, _, rfl, (hx0.T hw_p rfl hb_p), Or.inr (Or.inr (Or.inr (Or.inl ⟨rfl, rfl⟩)))⟩)) ?_
              refine g_astore_n (lv' := [(3, .ref (b.1 6 (wh S pj))), (0, .ref M), (1, .int (nI pj)), (2, .int (nI qj))]) hC dX9_merge_57 rfl (by decide) rfl (Or.inr ⟨_, rfl⟩) ?_
              refine g_aload_n hC dX9_merge_58 rfl 1 rfl (Or.inr ⟨_, rfl⟩) ?_
              refine g_get hC (by decide +kernel) rfl (hx0.M hM).1 (hx0.M hM).2 0 (by decide) (by decide +kernel) (Or.inl rfl) rfl dX9_merge_59 ?_
              refine g_iload_n hC dX9_merge_62 rfl 3 rfl ?_
              refine g_aald hC 5 rfl (hx0.Mp rfl).1 (hx0.Mp rfl).2 (qj) rfl (show qj < 10 by omega) (by decide) dX9_merge_63 ?_
              refine g_val (w := .null) (congrArg va_rf hp0_q) ?_
              refine g_S (As := [.null]) (st := []) hC 1 dX9_merge_64 gX9_merge_X9_asTable rfl (by decide +kernel) ⟨Nat.le_of_ble_eq_true rfl, Nat.le_of_ble_eq_true rfl⟩ rfl (Nat.le_of_ble_eq_true rfl) ⟨(show 0 + 0 ≤ (rmC S (s_merge S (nI pj) (nI qj)).2) by omega), (show 0 + 0 ≤ (rmS S (s_merge S (nI pj) (nI qj)).2) by omega)⟩ (c2 := 0) (s2 := 0) rfl rfl (x_asTable none 0 (Or.inl ⟨rfl, rfl⟩)) ?_
              refine g_astore (lv' := [(4, .null), (3, .ref (b.1 6 (wh S pj))), (0, .ref M), (1, .int (nI pj)), (2, .int (nI qj))]) hC dX9_merge_67 (by decide) rfl (Or.inl rfl) ?_
              refine g_aload_n hC dX9_merge_69 rfl 1 rfl (Or.inr ⟨_, rfl⟩) ?_
              refine g_ifnull (o := some (b.1 6 (wh S pj))) (tgt := 78) hC dX9_merge_70 (by decide) (fun h70 => ?_) (fun a70 h70 => ?_)
              · cases h70
              · refine g_aload hC dX9_merge_73 0 rfl (Or.inl rfl) ?_
                refine g_ifnonnull (o := none) (tgt := 84) hC dX9_merge_75 (by decide) (fun a75 h75 => ?_) (fun h75 => ?_)
                · cases h75
                · refine g_aload_n hC dX9_merge_78 rfl 2 rfl (Or.inr ⟨_, rfl⟩) ?_
                  refine g_iconst hC dX9_merge_79 (v := nI 1) (by decide) ?_
                  refine g_Vx (As := [.int (nI 1)]) (st := []) hC 1 dX9_merge_80 rfl (hx0.M hM).1 (hx0.M hM).2 gX9_merge_X9_failed rfl (by decide +kernel) ⟨Nat.le_of_ble_eq_true rfl, Nat.le_of_ble_eq_true rfl⟩ rfl (Nat.le_of_ble_eq_true rfl) ⟨(show 0 + 0 ≤ (rmC S (s_merge S (nI pj) (nI qj)).2) by omega), (show 0 + 0 ≤ (rmS S (s_merge S (nI pj) (nI qj)).2) by omega)⟩ (c2 := 0) (s2 := 0) rfl rfl (x_failed hx0 M hM 1) (fun v1 L1 f1 hp1 => ?_)
                  obtain ⟨rfl, hx1⟩ := hp1
                  show gW X vwCl 8 L1 f1 0 0 83 [(4, .null), (3, .ref (b.1 6 (wh S pj))), (0, .ref M), (1, .int (nI pj)), (2, .int (nI qj))] [.int (fA 1)]
                  have hc_p : castF S pj 4 = 0 := by unfold castF isO; rw [hk_p] <;> decide
                  have hc_q : castF S qj 4 = 1 := by unfold castF isO; rw [hk_q] <;> decide
                  have hbf : bthF S pj qj 4 = 1 := by unfold bthF; rw [hc_p, hc_q] <;> decide
                  have hE : s_merge S (nI pj) (nI qj) = (fA 1, (aSc (thS S) 1 1)) := by
                    unfold s_merge
                    rw [if_pos h4, if_pos h11, hpl_p, hpl_q, hbf, if_pos (show 0 < 1 by decide)] <;> rfl
                  refine g_widen (c2 := (rmC S (s_merge S (nI pj) (nI qj)).2)) (s2 := (rmS S (s_merge S (nI pj) (nI qj)).2)) (show 0 ≤ (rmC S (s_merge S (nI pj) (nI qj)).2) by omega) (show 0 ≤ (rmS S (s_merge S (nI pj) (nI qj)).2) by omega) ?_
                  exact g_iret hC hR dX9_merge_83 ⟨b, congrArg (fun z => some (Value.int (Prod.fst z))) hE.symm, by rw [hE]; exact hx1, xG.rf⟩
            · exfalso; omega
          · have hw_q : wh S qj < S.1 4 := hI.wl hqj hk_q
            have hp0_q : plcF (thS S) b qj = some (b.1 0 (wh S qj)) := plc_k hqj hk_q (by decide)
            refine g_aald hC 5 rfl (hx0.Mp rfl).1 (hx0.Mp rfl).2 (qj) rfl (show qj < 10 by omega) (by decide) dX9_merge_34 ?_
            refine g_val (w := .ref (b.1 0 (wh S qj))) (congrArg va_rf hp0_q) ?_
            refine g_iconst hC dX9_merge_35 (v := nI 4) (by decide) ?_
            refine g_S (As := [.ref (b.1 0 (wh S qj)), .int (nI 4)]) (st := []) hC 2 dX9_merge_36 gX9_merge_X9_mayBeCast rfl (by decide +kernel) ⟨Nat.le_of_ble_eq_true rfl, Nat.le_of_ble_eq_true rfl⟩ rfl (Nat.le_of_ble_eq_true rfl) ⟨(show 0 + 0 ≤ (rmC S (s_merge S (nI pj) (nI qj)).2) by omega), (show 0 + 0 ≤ (rmS S (s_merge S (nI pj) (nI qj)).2) by omega)⟩ (c2 := 0) (s2 := 0) rfl rfl (x_mayBeCast (some (b.1 0 (wh S qj))) 1 (Or.inr ⟨_, 0, _, rfl, (hx0.B hw_q rfl), Or.inl ⟨rfl, rfl⟩⟩) 4 (by decide)) ?_
            refine g_ifN_ne (a := 0) (tgt := 48) hC dX9_merge_39 (by decide) (by omega) (fun h39 => ?_) (fun h39 => ?_)
            · exfalso; omega
            · refine g_aload_n hC dX9_merge_42 rfl 0 rfl (Or.inr ⟨_, rfl⟩) ?_
              refine g_iconst hC dX9_merge_43 (v := nI 2) (by decide) ?_
              refine g_Vx (As := [.int (nI 2)]) (st := []) hC 1 dX9_merge_44 rfl (hx0.M hM).1 (hx0.M hM).2 gX9_merge_X9_failed rfl (by decide +kernel) ⟨Nat.le_of_ble_eq_true rfl, Nat.le_of_ble_eq_true rfl⟩ rfl (Nat.le_of_ble_eq_true rfl) ⟨(show 0 + 0 ≤ (rmC S (s_merge S (nI pj) (nI qj)).2) by omega), (show 0 + 0 ≤ (rmS S (s_merge S (nI pj) (nI qj)).2) by omega)⟩ (c2 := 0) (s2 := 0) rfl rfl (x_failed hx0 M hM 2) (fun v1 L1 f1 hp1 => ?_)
              obtain ⟨rfl, hx1⟩ := hp1
              show gW X vwCl 8 L1 f1 0 0 47 [(0, .ref M), (1, .int (nI pj)), (2, .int (nI qj))] [.int (fA 2)]
              have hc_p : castF S pj 4 = 0 := by unfold castF isO; rw [hk_p] <;> decide
              have hc_q : castF S qj 4 = 2 := by unfold castF isO; rw [hk_q] <;> decide
              have hbf : bthF S pj qj 4 = 2 := by unfold bthF; rw [hc_p, hc_q] <;> decide
              have hE : s_merge S (nI pj) (nI qj) = (fA 2, (aSc (thS S) 1 2)) := by
                unfold s_merge
                rw [if_pos h4, if_pos h11, hpl_p, hpl_q, hbf, if_pos (show 0 < 2 by decide)] <;> rfl
              refine g_widen (c2 := (rmC S (s_merge S (nI pj) (nI qj)).2)) (s2 := (rmS S (s_merge S (nI pj) (nI qj)).2)) (show 0 ≤ (rmC S (s_merge S (nI pj) (nI qj)).2) by omega) (show 0 ≤ (rmS S (s_merge S (nI pj) (nI qj)).2) by omega) ?_
              exact g_iret hC hR dX9_merge_47 ⟨b, congrArg (fun z => some (Value.int (Prod.fst z))) hE.symm, by rw [hE]; exact hx1, xG.rf⟩
          · have hw_q : wh S qj < S.1 7 := hI.ws hqj hk_q
            have hp0_q : plcF (thS S) b qj = some (b.1 2 (wh S qj)) := plc_k hqj hk_q (by decide)
            refine g_aald hC 5 rfl (hx0.Mp rfl).1 (hx0.Mp rfl).2 (qj) rfl (show qj < 10 by omega) (by decide) dX9_merge_34 ?_
            refine g_val (w := .ref (b.1 2 (wh S qj))) (congrArg va_rf hp0_q) ?_
            refine g_iconst hC dX9_merge_35 (v := nI 4) (by decide) ?_
            refine g_S (As := [.ref (b.1 2 (wh S qj)), .int (nI 4)]) (st := []) hC 2 dX9_merge_36 gX9_merge_X9_mayBeCast rfl (by decide +kernel) ⟨Nat.le_of_ble_eq_true rfl, Nat.le_of_ble_eq_true rfl⟩ rfl (Nat.le_of_ble_eq_true rfl) ⟨(show 0 + 0 ≤ (rmC S (s_merge S (nI pj) (nI qj)).2) by omega), (show 0 + 0 ≤ (rmS S (s_merge S (nI pj) (nI qj)).2) by omega)⟩ (c2 := 0) (s2 := 0) rfl rfl (x_mayBeCast (some (b.1 2 (wh S qj))) 2 (Or.inr ⟨_, 4, _, rfl, (hx0.G hw_q rfl), Or.inr (Or.inl ⟨rfl, rfl⟩)⟩) 4 (by decide)) ?_
            refine g_ifN_ne (a := 0) (tgt := 48) hC dX9_merge_39 (by decide) (by omega) (fun h39 => ?_) (fun h39 => ?_)
            · exfalso; omega
            · refine g_aload_n hC dX9_merge_42 rfl 0 rfl (Or.inr ⟨_, rfl⟩) ?_
              refine g_iconst hC dX9_merge_43 (v := nI 2) (by decide) ?_
              refine g_Vx (As := [.int (nI 2)]) (st := []) hC 1 dX9_merge_44 rfl (hx0.M hM).1 (hx0.M hM).2 gX9_merge_X9_failed rfl (by decide +kernel) ⟨Nat.le_of_ble_eq_true rfl, Nat.le_of_ble_eq_true rfl⟩ rfl (Nat.le_of_ble_eq_true rfl) ⟨(show 0 + 0 ≤ (rmC S (s_merge S (nI pj) (nI qj)).2) by omega), (show 0 + 0 ≤ (rmS S (s_merge S (nI pj) (nI qj)).2) by omega)⟩ (c2 := 0) (s2 := 0) rfl rfl (x_failed hx0 M hM 2) (fun v1 L1 f1 hp1 => ?_)
              obtain ⟨rfl, hx1⟩ := hp1
              show gW X vwCl 8 L1 f1 0 0 47 [(0, .ref M), (1, .int (nI pj)), (2, .int (nI qj))] [.int (fA 2)]
              have hc_p : castF S pj 4 = 0 := by unfold castF isO; rw [hk_p] <;> decide
              have hc_q : castF S qj 4 = 2 := by unfold castF isO; rw [hk_q] <;> decide
              have hbf : bthF S pj qj 4 = 2 := by unfold bthF; rw [hc_p, hc_q] <;> decide
              have hE : s_merge S (nI pj) (nI qj) = (fA 2, (aSc (thS S) 1 2)) := by
                unfold s_merge
                rw [if_pos h4, if_pos h11, hpl_p, hpl_q, hbf, if_pos (show 0 < 2 by decide)] <;> rfl
              refine g_widen (c2 := (rmC S (s_merge S (nI pj) (nI qj)).2)) (s2 := (rmS S (s_merge S (nI pj) (nI qj)).2)) (show 0 ≤ (rmC S (s_merge S (nI pj) (nI qj)).2) by omega) (show 0 ≤ (rmS S (s_merge S (nI pj) (nI qj)).2) by omega) ?_
              exact g_iret hC hR dX9_merge_47 ⟨b, congrArg (fun z => some (Value.int (Prod.fst z))) hE.symm, by rw [hE]; exact hx1, xG.rf⟩
          · have hw_q : wh S qj < S.1 10 := hI.wr hqj hk_q
            have hp0_q : plcF (thS S) b qj = some (b.1 4 (wh S qj)) := plc_k hqj hk_q (by decide)
            refine g_aald hC 5 rfl (hx0.Mp rfl).1 (hx0.Mp rfl).2 (qj) rfl (show qj < 10 by omega) (by decide) dX9_merge_34 ?_
            refine g_val (w := .ref (b.1 4 (wh S qj))) (congrArg va_rf hp0_q) ?_
            refine g_iconst hC dX9_merge_35 (v := nI 4) (by decide) ?_
            refine g_S (As := [.ref (b.1 4 (wh S qj)), .int (nI 4)]) (st := []) hC 2 dX9_merge_36 gX9_merge_X9_mayBeCast rfl (by decide +kernel) ⟨Nat.le_of_ble_eq_true rfl, Nat.le_of_ble_eq_true rfl⟩ rfl (Nat.le_of_ble_eq_true rfl) ⟨(show 0 + 0 ≤ (rmC S (s_merge S (nI pj) (nI qj)).2) by omega), (show 0 + 0 ≤ (rmS S (s_merge S (nI pj) (nI qj)).2) by omega)⟩ (c2 := 0) (s2 := 0) rfl rfl (x_mayBeCast (some (b.1 4 (wh S qj))) 3 (Or.inr ⟨_, 3, _, rfl, (hx0.W hw_q rfl), Or.inr (Or.inr (Or.inl ⟨rfl, rfl⟩))⟩) 4 (by decide)) ?_
            refine g_ifN_ne (a := 0) (tgt := 48) hC dX9_merge_39 (by decide) (by omega) (fun h39 => ?_) (fun h39 => ?_)
            · exfalso; omega
            · refine g_aload_n hC dX9_merge_42 rfl 0 rfl (Or.inr ⟨_, rfl⟩) ?_
              refine g_iconst hC dX9_merge_43 (v := nI 2) (by decide) ?_
              refine g_Vx (As := [.int (nI 2)]) (st := []) hC 1 dX9_merge_44 rfl (hx0.M hM).1 (hx0.M hM).2 gX9_merge_X9_failed rfl (by decide +kernel) ⟨Nat.le_of_ble_eq_true rfl, Nat.le_of_ble_eq_true rfl⟩ rfl (Nat.le_of_ble_eq_true rfl) ⟨(show 0 + 0 ≤ (rmC S (s_merge S (nI pj) (nI qj)).2) by omega), (show 0 + 0 ≤ (rmS S (s_merge S (nI pj) (nI qj)).2) by omega)⟩ (c2 := 0) (s2 := 0) rfl rfl (x_failed hx0 M hM 2) (fun v1 L1 f1 hp1 => ?_)
              obtain ⟨rfl, hx1⟩ := hp1
              show gW X vwCl 8 L1 f1 0 0 47 [(0, .ref M), (1, .int (nI pj)), (2, .int (nI qj))] [.int (fA 2)]
              have hc_p : castF S pj 4 = 0 := by unfold castF isO; rw [hk_p] <;> decide
              have hc_q : castF S qj 4 = 2 := by unfold castF isO; rw [hk_q] <;> decide
              have hbf : bthF S pj qj 4 = 2 := by unfold bthF; rw [hc_p, hc_q] <;> decide
              have hE : s_merge S (nI pj) (nI qj) = (fA 2, (aSc (thS S) 1 2)) := by
                unfold s_merge
                rw [if_pos h4, if_pos h11, hpl_p, hpl_q, hbf, if_pos (show 0 < 2 by decide)] <;> rfl
              refine g_widen (c2 := (rmC S (s_merge S (nI pj) (nI qj)).2)) (s2 := (rmS S (s_merge S (nI pj) (nI qj)).2)) (show 0 ≤ (rmC S (s_merge S (nI pj) (nI qj)).2) by omega) (show 0 ≤ (rmS S (s_merge S (nI pj) (nI qj)).2) by omega) ?_
              exact g_iret hC hR dX9_merge_47 ⟨b, congrArg (fun z => some (Value.int (Prod.fst z))) hE.symm, by rw [hE]; exact hx1, xG.rf⟩
          · have hw_q : wh S qj < S.1 13 := hI.wt hqj (by omega)
            have hb_q : S.2.1 14 (wh S qj) = 0 := by have := ((hI.2.1 _ hqj).2.2.2.2.2 (by omega)).2; omega
            have hp0_q : plcF (thS S) b qj = some (b.1 6 (wh S qj)) := plc_k hqj hk_q (by decide)
            refine g_aald hC 5 rfl (hx0.Mp rfl).1 (hx0.Mp rfl).2 (qj) rfl (show qj < 10 by omega) (by decide) dX9_merge_34 ?_
            refine g_val (w := .ref (b.1 6 (wh S qj))) (congrArg va_rf hp0_q) ?_
            refine g_iconst hC dX9_merge_35 (v := nI 4) (by decide) ?_
            refine g_S (As := [.ref (b.1 6 (wh S qj)), .int (nI 4)]) (st := []) hC 2 dX9_merge_36 gX9_merge_X9_mayBeCast rfl (by decide +kernel) ⟨Nat.le_of_ble_eq_true rfl, Nat.le_of_ble_eq_true rfl⟩ rfl (Nat.le_of_ble_eq_true rfl) ⟨(show 0 + 0 ≤ (rmC S (s_merge S (nI pj) (nI qj)).2) by omega), (show 0 + 0 ≤ (rmS S (s_merge S (nI pj) (nI qj)).2) by omega)⟩ (c2 := 0) (s2 := 0) rfl rfl (x_mayBeCast (some (b.1 6 (wh S qj))) 4 (Or.inr ⟨_, 5, _, rfl, (hx0.T hw_q rfl hb_q), Or.inr (Or.inr (Or.inr (Or.inl ⟨rfl, rfl⟩)))⟩) 4 (by decide)) ?_
            refine g_ifN_ne (a := 1) (tgt := 48) hC dX9_merge_39 (by decide) (by omega) (fun h39 => ?_) (fun h39 => ?_)
            · refine g_aload_n hC dX9_merge_48 rfl 0 rfl (Or.inr ⟨_, rfl⟩) ?_
              refine g_get hC (by decide +kernel) rfl (hx0.M hM).1 (hx0.M hM).2 0 (by decide) (by decide +kernel) (Or.inl rfl) rfl dX9_merge_49 ?_
              refine g_iload_n hC dX9_merge_52 rfl 1 rfl ?_
              refine g_aald hC 5 rfl (hx0.Mp rfl).1 (hx0.Mp rfl).2 (pj) rfl (show pj < 10 by omega) (by decide) dX9_merge_53 ?_
              refine g_val (w := .ref (b.1 6 (wh S pj))) (congrArg va_rf hp0_p) ?_
              refine g_S (As := [.ref (b.1 6 (wh S pj))]) (st := []) hC 1 dX9_merge_54 gX9_merge_X9_asTable rfl (by decide +kernel) ⟨Nat.le_of_ble_eq_true rfl, Nat.le_of_ble_eq_true rfl⟩ rfl (Nat.le_of_ble_eq_true rfl) ⟨(show 0 + 0 ≤ (rmC S (s_merge S (nI pj) (nI qj)).2) by omega), (show 0 + 0 ≤ (rmS S (s_merge S (nI pj) (nI qj)).2) by omega)⟩ (c2 := 0) (s2 := 0) rfl rfl (x_asTable (some (b.1 6 (wh S pj))) 4 (Or.inr ⟨_, 5, _, rfl, (hx0.T hw_p rfl hb_p), Or.inr (Or.inr (Or.inr (Or.inl ⟨rfl, rfl⟩)))⟩)) ?_
              refine g_astore_n (lv' := [(3, .ref (b.1 6 (wh S pj))), (0, .ref M), (1, .int (nI pj)), (2, .int (nI qj))]) hC dX9_merge_57 rfl (by decide) rfl (Or.inr ⟨_, rfl⟩) ?_
              refine g_aload_n hC dX9_merge_58 rfl 1 rfl (Or.inr ⟨_, rfl⟩) ?_
              refine g_get hC (by decide +kernel) rfl (hx0.M hM).1 (hx0.M hM).2 0 (by decide) (by decide +kernel) (Or.inl rfl) rfl dX9_merge_59 ?_
              refine g_iload_n hC dX9_merge_62 rfl 3 rfl ?_
              refine g_aald hC 5 rfl (hx0.Mp rfl).1 (hx0.Mp rfl).2 (qj) rfl (show qj < 10 by omega) (by decide) dX9_merge_63 ?_
              refine g_val (w := .ref (b.1 6 (wh S qj))) (congrArg va_rf hp0_q) ?_
              refine g_S (As := [.ref (b.1 6 (wh S qj))]) (st := []) hC 1 dX9_merge_64 gX9_merge_X9_asTable rfl (by decide +kernel) ⟨Nat.le_of_ble_eq_true rfl, Nat.le_of_ble_eq_true rfl⟩ rfl (Nat.le_of_ble_eq_true rfl) ⟨(show 0 + 0 ≤ (rmC S (s_merge S (nI pj) (nI qj)).2) by omega), (show 0 + 0 ≤ (rmS S (s_merge S (nI pj) (nI qj)).2) by omega)⟩ (c2 := 0) (s2 := 0) rfl rfl (x_asTable (some (b.1 6 (wh S qj))) 4 (Or.inr ⟨_, 5, _, rfl, (hx0.T hw_q rfl hb_q), Or.inr (Or.inr (Or.inr (Or.inl ⟨rfl, rfl⟩)))⟩)) ?_
              refine g_astore (lv' := [(4, .ref (b.1 6 (wh S qj))), (3, .ref (b.1 6 (wh S pj))), (0, .ref M), (1, .int (nI pj)), (2, .int (nI qj))]) hC dX9_merge_67 (by decide) rfl (Or.inr ⟨_, rfl⟩) ?_
              refine g_aload_n hC dX9_merge_69 rfl 1 rfl (Or.inr ⟨_, rfl⟩) ?_
              refine g_ifnull (o := some (b.1 6 (wh S pj))) (tgt := 78) hC dX9_merge_70 (by decide) (fun h70 => ?_) (fun a70 h70 => ?_)
              · cases h70
              · refine g_aload hC dX9_merge_73 0 rfl (Or.inr ⟨_, rfl⟩) ?_
                refine g_ifnonnull (o := some (b.1 6 (wh S qj))) (tgt := 84) hC dX9_merge_75 (by decide) (fun a75 h75 => ?_) (fun h75 => ?_)
                · refine g_aload_n hC dX9_merge_84 rfl 1 rfl (Or.inr ⟨_, rfl⟩) ?_
                  refine g_getN hC (by decide +kernel) rfl (hx0.T hw_p rfl hb_p).1 (hx0.T hw_p rfl hb_p).2 2 (by decide) (gKK_F ("KeptTerms", 176, "KeptTerms$Table", "termCount", "I") (by decide)) (Or.inl rfl) rfl dX9_merge_85 ?_
                  refine g_istore (lv' := [(5, .int (nI (S.2.1 16 (wh S pj)))), (4, .ref (b.1 6 (wh S qj))), (3, .ref (b.1 6 (wh S pj))), (0, .ref M), (1, .int (nI pj)), (2, .int (nI qj))]) hC dX9_merge_88 (by decide) rfl ?_
                  refine g_aload hC dX9_merge_90 1 rfl (Or.inr ⟨_, rfl⟩) ?_
                  refine g_getN hC (by decide +kernel) rfl (hx0.T hw_q rfl hb_q).1 (hx0.T hw_q rfl hb_q).2 2 (by decide) (gKK_F ("KeptTerms", 176, "KeptTerms$Table", "termCount", "I") (by decide)) (Or.inl rfl) rfl dX9_merge_92 ?_
                  refine g_istore (lv' := [(6, .int (nI (S.2.1 16 (wh S qj)))), (5, .int (nI (S.2.1 16 (wh S pj)))), (4, .ref (b.1 6 (wh S qj))), (3, .ref (b.1 6 (wh S pj))), (0, .ref M), (1, .int (nI pj)), (2, .int (nI qj))]) hC dX9_merge_95 (by decide) rfl ?_
                  refine g_iconst hC dX9_merge_97 (v := nI 0) (by decide) ?_
                  refine g_istore (lv' := [(7, .int (nI 0)), (6, .int (nI (S.2.1 16 (wh S qj)))), (5, .int (nI (S.2.1 16 (wh S pj)))), (4, .ref (b.1 6 (wh S qj))), (3, .ref (b.1 6 (wh S pj))), (0, .ref M), (1, .int (nI pj)), (2, .int (nI qj))]) hC dX9_merge_98 (by decide) rfl ?_
                  have lp : ∀ (m : Nat) (k : Nat) (Z : aS) (b3 : xB) (L3 : List Nat) (f3 : Nat → va_E), S.2.1 16 (wh S qj) - k < m → (k ≤ S.2.1 16 (wh S qj)) → (xR cy Z b3 L3 f3) → (b3.1 9 0 = M) → (b3.1 6 (wh S pj) = b.1 6 (wh S pj)) → (b3.1 6 (wh S qj) = b.1 6 (wh S qj)) → (xG S b b3) → (∀ k9 r9, xV S k9 r9 → xV Z k9 r9) → (mI (wh S pj) (wh S qj) (S.2.1 16 (wh S qj)) k Z) → (Inv Z) → (mgG (wh S pj) (wh S qj) (S.2.1 16 (wh S qj) - k) k (Z.2.1 16 (wh S pj) - S.2.1 16 (wh S pj)) Z = s_merge S (nI pj) (nI qj)) → (mo S Z) → (S.2.1 16 (wh S pj) ≤ Z.2.1 16 (wh S pj)) → (Z.2.1 14 = S.2.1 14) → gW X vwCl 8 L3 f3 (rmC S Z) (rmS S Z) 100 [(7, .int (nI k)), (6, .int (nI (S.2.1 16 (wh S qj)))), (5, .int (nI (S.2.1 16 (wh S pj)))), (4, .ref (b.1 6 (wh S qj))), (3, .ref (b.1 6 (wh S pj))), (0, .ref M)] [] := by
                    intro m
                    induction m with
                    | zero => intros; omega
                    | succ m ih =>
                      intro k Z b3 L3 f3 hm9 hk hx3 hM3 hT3 hU3 hg3 hv3 hmi hiz hg hmo h16 h14
                      have hkp3 : Z.2.1 14 (wh S pj) = 0 := by rw [h14]; exact hb_p
                      have hkq3 : Z.2.1 14 (wh S qj) = 0 := by rw [h14]; exact hb_q
                      have htm := (hmi.1.tk hmi.2.1).2.1
                      have hum := (hmi.1.tk hmi.2.2.1).2.1
                      have hNu := hmi.2.2.2.1
                      refine g_iload hC dX9_merge_100 0 rfl ?_
                      refine g_iload hC dX9_merge_102 1 rfl ?_
                      refine g_icmpN_ge (a := k) (b := S.2.1 16 (wh S qj)) (tgt := 138) hC dX9_merge_104 (by decide) (by omega) (by omega) (fun h104 => ?_) (fun h104 => ?_)
                      · refine g_aload_n hC dX9_merge_138 rfl 4 rfl (Or.inr ⟨_, rfl⟩) ?_
                        refine g_getN hC (by decide +kernel) rfl (hx3.T hmi.2.1 hT3 hkp3).1 (hx3.T hmi.2.1 hT3 hkp3).2 2 (by decide) (gKK_F ("KeptTerms", 176, "KeptTerms$Table", "termCount", "I") (by decide)) (Or.inl rfl) rfl dX9_merge_139 ?_
                        refine g_iload hC dX9_merge_142 2 rfl ?_
                        refine g_isubN (a := Z.2.1 16 (wh S pj)) (b := S.2.1 16 (wh S pj)) hC (by omega) dX9_merge_144 ?_
                        have hE : s_merge S (nI pj) (nI qj) = (nI (Z.2.1 16 (wh S pj) - S.2.1 16 (wh S pj)), Z) := by
                          rw [← hg, show S.2.1 16 (wh S qj) - k = 0 by omega]
                          rfl
                        have hm2 : mo Z (s_merge S (nI pj) (nI qj)).2 := by rw [hE]; exact mo.rf
                        have hra2 := rm_add hmo hm2
                        refine g_widen (c2 := (rmC S (s_merge S (nI pj) (nI qj)).2)) (s2 := (rmS S (s_merge S (nI pj) (nI qj)).2)) (show (rmC S Z) ≤ (rmC S (s_merge S (nI pj) (nI qj)).2) by omega) (show (rmS S Z) ≤ (rmS S (s_merge S (nI pj) (nI qj)).2) by omega) ?_
                        exact g_iret hC hR dX9_merge_145 ⟨b3, congrArg (fun z => some (Value.int (Prod.fst z))) hE.symm, by rw [hE]; exact hx3, hg3⟩
                      · have hrZ0 := hmi.1.tt hmi.2.2.1 (show k < Z.2.1 16 (wh S qj) by omega)
                        have hc16 := (aI_com (t := wh S pj) hmi.1 hmi.2.1 hrZ0 (by have := hmi.2.2.2.2; omega)).2.2.2.2
                        refine g_aload_n hC dX9_merge_107 rfl 5 rfl (Or.inr ⟨_, rfl⟩) ?_
                        refine g_aload_n hC dX9_merge_108 rfl 4 rfl (Or.inr ⟨_, rfl⟩) ?_
                        refine g_aload_n hC dX9_merge_109 rfl 4 rfl (Or.inr ⟨_, rfl⟩) ?_
                        refine g_aload hC dX9_merge_110 3 rfl (Or.inr ⟨_, rfl⟩) ?_
                        refine g_getN hC (by decide +kernel) rfl (hx3.T hmi.2.2.1 hU3 hkq3).1 (hx3.T hmi.2.2.1 hU3 hkq3).2 0 (by decide) (gKK_F ("KeptTerms", 179, "KeptTerms$Table", "terms", "[LKeptTerms$Bytes;") (by decide)) (Or.inl rfl) rfl dX9_merge_112 ?_
                        refine g_iload hC dX9_merge_115 0 rfl ?_
                        refine g_aald hC 4 rfl (hx3.Tt hmi.2.2.1 rfl).1 (hx3.Tt hmi.2.2.1 rfl).2 (k) rfl (show k < 100 by omega) (by decide) dX9_merge_117 ?_
                        refine g_val (w := .ref (b3.1 0 (Z.2.1 20 (100 * wh S qj + k)))) (congrArg va_rf (if_pos (show k < Z.2.1 16 (wh S qj) by omega))) ?_
                        have hrZ := hmi.1.tt hmi.2.2.1 (show k < Z.2.1 16 (wh S qj) by omega)
                        have hcf := comA_f (t := wh S pj) hmi.1 hrZ
                        have hstp := hmi.step (show k < S.2.1 16 (wh S qj) by omega)
                        have hmc := mo_com (S := Z) (t := wh S pj) (r := Z.2.1 20 (100 * wh S qj + k))
                        have hrc := rm_com (Z := Z) (t := wh S pj) (r := Z.2.1 20 (100 * wh S qj + k))
                        have hra := rm_add hmo hmc
                        have hm2 : mo (comS Z (wh S pj) (Z.2.1 20 (100 * wh S qj + k))).2 (s_merge S (nI pj) (nI qj)).2 := by
                          rw [← hg, show S.2.1 16 (wh S qj) - k = (S.2.1 16 (wh S qj) - (k + 1)) + 1 by omega, mgG]
                          split
                          · exact mo.rf
                          · exact mo_mg _ _ _ _
                        have hra2 := rm_add (hmo.tr hmc) hm2
                        have htZ : wh S pj < (comA Z (wh S pj) (Z.2.1 20 (100 * wh S qj + k))).2.1 13 := by rw [hcf.1 13 (by decide) (by decide)]; exact hmi.2.1
                        have hkZ : (comA Z (wh S pj) (Z.2.1 20 (100 * wh S qj + k))).2.2.1 14 (wh S pj) = 0 := by rw [hcf.2.1, h14]; exact hb_p
                        refine g_Vx (As := [.ref (b3.1 0 (Z.2.1 20 (100 * wh S qj + k)))]) (st := [.ref (b.1 6 (wh S pj)), .ref M]) hC 1 dX9_merge_118 rfl (hx3.T hmi.2.1 hT3 hkp3).1 (hx3.T hmi.2.1 hT3 hkp3).2 gX9_merge_X7_admit rfl (by decide +kernel) ⟨Nat.le_of_ble_eq_true rfl, Nat.le_of_ble_eq_true rfl⟩ rfl (Nat.le_of_ble_eq_true rfl) ⟨(show (rmC S Z) + (rmC Z (comA Z (wh S pj) (Z.2.1 20 (100 * wh S qj + k))).2) ≤ (rmC S (s_merge S (nI pj) (nI qj)).2) by omega), (show (rmS S Z) + (rmS Z (comA Z (wh S pj) (Z.2.1 20 (100 * wh S qj + k))).2) ≤ (rmS S (s_merge S (nI pj) (nI qj)).2) by omega)⟩ (c2 := ((rmC S Z) + (rmC Z (comA Z (wh S pj) (Z.2.1 20 (100 * wh S qj + k))).2))) (s2 := ((rmS S Z) + (rmS Z (comA Z (wh S pj) (Z.2.1 20 (100 * wh S qj + k))).2))) rfl rfl (x_admit_T (S := Z) hx3 hmi.1 (by have := hmi.2.2.2.2; omega) _ _ hmi.2.1 hT3 hkp3 _ _ hrZ rfl) (fun v4 L4 f4 hp4 => ?_)
                        obtain ⟨b4, rfl, hx4, hg4⟩ := hp4
                        show gW X vwCl 8 L4 f4 ((rmC S Z) + (rmC Z (comA Z (wh S pj) (Z.2.1 20 (100 * wh S qj + k))).2)) ((rmS S Z) + (rmS Z (comA Z (wh S pj) (Z.2.1 20 (100 * wh S qj + k))).2)) 121 [(7, .int (nI k)), (6, .int (nI (S.2.1 16 (wh S qj)))), (5, .int (nI (S.2.1 16 (wh S pj)))), (4, .ref (b.1 6 (wh S qj))), (3, .ref (b.1 6 (wh S pj))), (0, .ref M)] [.int ((comA Z (wh S pj) (Z.2.1 20 (100 * wh S qj + k))).1), .ref (b.1 6 (wh S pj)), .ref M]
                        refine g_widen (c2 := (rmC S (comS Z (wh S pj) (Z.2.1 20 (100 * wh S qj + k))).2)) (s2 := (rmS S (comS Z (wh S pj) (Z.2.1 20 (100 * wh S qj + k))).2)) (show ((rmC S Z) + (rmC Z (comA Z (wh S pj) (Z.2.1 20 (100 * wh S qj + k))).2)) ≤ (rmC S (comS Z (wh S pj) (Z.2.1 20 (100 * wh S qj + k))).2) by omega) (show ((rmS S Z) + (rmS Z (comA Z (wh S pj) (Z.2.1 20 (100 * wh S qj + k))).2)) ≤ (rmS S (comS Z (wh S pj) (Z.2.1 20 (100 * wh S qj + k))).2) by omega) ?_
                        have hlb := lk_b (S := Z) (r := Z.2.1 20 (100 * wh S qj + k)) (hmi.1.tk hmi.2.1)
                        have hsl := (hmi.1.tk hmi.2.1).sl
                        refine g_Vx (As := [.ref (b.1 6 (wh S pj)), .int ((comA Z (wh S pj) (Z.2.1 20 (100 * wh S qj + k))).1)]) (st := []) hC 2 dX9_merge_121 rfl (hx4.M ((hg4 9 0 (by decide) (by decide) (show 0 < 4 by decide)).trans hM3)).1 (hx4.M ((hg4 9 0 (by decide) (by decide) (show 0 < 4 by decide)).trans hM3)).2 gX9_merge_X9_counted rfl (by decide +kernel) ⟨Nat.le_of_ble_eq_true rfl, Nat.le_of_ble_eq_true rfl⟩ rfl (Nat.le_of_ble_eq_true rfl) ⟨(show (rmC S (comS Z (wh S pj) (Z.2.1 20 (100 * wh S qj + k))).2) + 0 ≤ (rmC S (s_merge S (nI pj) (nI qj)).2) by omega), (show (rmS S (comS Z (wh S pj) (Z.2.1 20 (100 * wh S qj + k))).2) + 0 ≤ (rmS S (s_merge S (nI pj) (nI qj)).2) by omega)⟩ (c2 := (rmC S (comS Z (wh S pj) (Z.2.1 20 (100 * wh S qj + k))).2)) (s2 := (rmS S (comS Z (wh S pj) (Z.2.1 20 (100 * wh S qj + k))).2)) rfl rfl (x_counted_T (S := (comA Z (wh S pj) (Z.2.1 20 (100 * wh S qj + k))).2) hx4 M ((hg4 9 0 (by decide) (by decide) (show 0 < 4 by decide)).trans hM3) _ _ htZ ((hg4 6 (wh S pj) (by decide) (by decide) hmi.2.1).trans hT3) hkZ _ (by rw [hcf.2.2.1]; omega)) (fun v5 L5 f5 hp5 => ?_)
                        obtain ⟨rfl, hx5⟩ := hp5
                        show gW X vwCl 8 L5 f5 (rmC S (comS Z (wh S pj) (Z.2.1 20 (100 * wh S qj + k))).2) (rmS S (comS Z (wh S pj) (Z.2.1 20 (100 * wh S qj + k))).2) 124 [(7, .int (nI k)), (6, .int (nI (S.2.1 16 (wh S qj)))), (5, .int (nI (S.2.1 16 (wh S pj)))), (4, .ref (b.1 6 (wh S qj))), (3, .ref (b.1 6 (wh S pj))), (0, .ref M)] [.int ((comA Z (wh S pj) (Z.2.1 20 (100 * wh S qj + k))).1)]
                        rw [hcf.1 23 (by decide) (by decide), hcf.1 24 (by decide) (by decide), hcf.2.2.1] at hx5
                        have hx9 : xR cy (comS Z (wh S pj) (Z.2.1 20 (100 * wh S qj + k))).2 b4 L5 f5 := by rw [com_A]; exact hx5
                        refine g_bipush hC dX9_merge_124 (v := (-4)) (by decide) ?_
                        refine g_icmp_ne (x := (comA Z (wh S pj) (Z.2.1 20 (100 * wh S qj + k))).1) (y := (-4)) (tgt := 132) hC dX9_merge_126 (by decide) (fun h126 => ?_) (fun h126 => ?_)
                        · refine g_iincN (n := 1) (a := k) (lv' := [(7, .int (nI (k + 1))), (6, .int (nI (S.2.1 16 (wh S qj)))), (5, .int (nI (S.2.1 16 (wh S pj)))), (4, .ref (b.1 6 (wh S qj))), (3, .ref (b.1 6 (wh S pj))), (0, .ref M)]) hC dX9_merge_132 0 rfl (by decide) rfl ?_
                          refine g_goto (tgt := 100) hC dX9_merge_135 (by decide) ?_
                          exact ih (k + 1) (comS Z (wh S pj) (Z.2.1 20 (100 * wh S qj + k))).2 b4 L5 f5 (by omega) (by omega) hx9 ((hg4 9 0 (by decide) (by decide) (show 0 < 4 by decide)).trans hM3) ((hg4 6 (wh S pj) (by decide) (by decide) hmi.2.1).trans hT3) ((hg4 6 (wh S qj) (by decide) (by decide) hmi.2.2.1).trans hU3) (hg3.tr hv3 hg4) (fun k9 r9 hk9 => xV_com hmi.1 hrZ (hv3 k9 r9 hk9)) hstp (hst _ _ _ hiz hrZ) (by rw [← hg, show S.2.1 16 (wh S qj) - k = (S.2.1 16 (wh S qj) - (k + 1)) + 1 by omega, mgG, if_neg (show ¬ (comS Z (wh S pj) (Z.2.1 20 (100 * wh S qj + k))).1 = -4 by rw [com_A]; exact h126)]; congr 1; have := hc16 (wh S pj); omega) (hmo.tr hmc) (by have := hc16 (wh S pj); omega) ((com_14 hmi.1 hrZ).trans h14)
                        · refine g_bipush hC dX9_merge_129 (v := (-4)) (by decide) ?_
                          have hE : s_merge S (nI pj) (nI qj) = (-4, (comS Z (wh S pj) (Z.2.1 20 (100 * wh S qj + k))).2) := by
                            rw [← hg, show S.2.1 16 (wh S qj) - k = (S.2.1 16 (wh S qj) - (k + 1)) + 1 by omega, mgG, if_pos (show (comS Z (wh S pj) (Z.2.1 20 (100 * wh S qj + k))).1 = -4 by rw [com_A]; exact h126)]
                          refine g_widen (c2 := (rmC S (s_merge S (nI pj) (nI qj)).2)) (s2 := (rmS S (s_merge S (nI pj) (nI qj)).2)) (show (rmC S (comS Z (wh S pj) (Z.2.1 20 (100 * wh S qj + k))).2) ≤ (rmC S (s_merge S (nI pj) (nI qj)).2) by omega) (show (rmS S (comS Z (wh S pj) (Z.2.1 20 (100 * wh S qj + k))).2) ≤ (rmS S (s_merge S (nI pj) (nI qj)).2) by omega) ?_
                          exact g_iret hC hR dX9_merge_131 ⟨b4, congrArg (fun z => some (Value.int (Prod.fst z))) hE.symm, by rw [hE]; exact hx9, hg3.tr hv3 hg4⟩
                  have hc_p : castF S pj 4 = 0 := by unfold castF isO; rw [hk_p] <;> decide
                  have hc_q : castF S qj 4 = 0 := by unfold castF isO; rw [hk_q] <;> decide
                  have hbf : bthF S pj qj 4 = 0 := by unfold bthF; rw [hc_p, hc_q] <;> decide
                  have hE0 : s_merge S (nI pj) (nI qj) = mgG (wh S pj) (wh S qj) (S.2.1 16 (wh S qj)) 0 0 (thS S) := by
                    unfold s_merge
                    rw [if_pos h4, if_pos h11, hpl_p, hpl_q, hbf, if_neg (show ¬ 0 < 0 by decide)]
                  have hum := (hI.tk hw_q).2.1
                  have hm0 : mo S (thS S) := mo.cg rfl rfl rfl rfl
                  have hr0 := rm_0 (S := S) (S' := thS S) rfl rfl rfl rfl
                  refine g_lv (lv' := [(7, .int (nI 0)), (6, .int (nI (S.2.1 16 (wh S qj)))), (5, .int (nI (S.2.1 16 (wh S pj)))), (4, .ref (b.1 6 (wh S qj))), (3, .ref (b.1 6 (wh S pj))), (0, .ref M)]) [0, 1, 2, 3, 4, 5] rfl ?_
                  refine g_widen (c2 := rmC S (thS S)) (s2 := rmS S (thS S)) (Nat.zero_le _) (Nat.zero_le _) ?_
                  exact lp (S.2.1 16 (wh S qj) + 1) 0 (thS S) b L f (by omega) (by omega) hx0 hM rfl rfl xG.rf (fun _ _ z => z) ⟨hI0, hw_p, hw_q, Nat.le_refl _, show S.1 4 + (S.2.1 16 (wh S qj) - 0) ≤ 39000 by omega⟩ hInv (by rw [hE0]; show mgG _ _ _ 0 (S.2.1 16 (wh S pj) - S.2.1 16 (wh S pj)) _ = _; rw [Nat.sub_self]; rfl) hm0 (Nat.le_refl _) rfl
                · cases h75
            · exfalso; omega
          · have hw_q : wh S qj < S.1 13 := hI.wt hqj (by omega)
            have hb_q : S.2.1 14 (wh S qj) ≠ 0 := by have := ((hI.2.1 _ hqj).2.2.2.2.2 (by omega)).2; omega
            have hp0_q : plcF (thS S) b qj = some (b.1 6 (wh S qj)) := plc_k hqj hk_q (by decide)
            refine g_aald hC 5 rfl (hx0.Mp rfl).1 (hx0.Mp rfl).2 (qj) rfl (show qj < 10 by omega) (by decide) dX9_merge_34 ?_
            refine g_val (w := .ref (b.1 6 (wh S qj))) (congrArg va_rf hp0_q) ?_
            refine g_iconst hC dX9_merge_35 (v := nI 4) (by decide) ?_
            refine g_S (As := [.ref (b.1 6 (wh S qj)), .int (nI 4)]) (st := []) hC 2 dX9_merge_36 gX9_merge_X9_mayBeCast rfl (by decide +kernel) ⟨Nat.le_of_ble_eq_true rfl, Nat.le_of_ble_eq_true rfl⟩ rfl (Nat.le_of_ble_eq_true rfl) ⟨(show 0 + 0 ≤ (rmC S (s_merge S (nI pj) (nI qj)).2) by omega), (show 0 + 0 ≤ (rmS S (s_merge S (nI pj) (nI qj)).2) by omega)⟩ (c2 := 0) (s2 := 0) rfl rfl (x_mayBeCast (some (b.1 6 (wh S qj))) 5 (Or.inr ⟨_, 1, _, rfl, (hx0.K hw_q rfl hb_q), Or.inr (Or.inr (Or.inr (Or.inr ⟨rfl, rfl⟩)))⟩) 4 (by decide)) ?_
            refine g_ifN_ne (a := 1) (tgt := 48) hC dX9_merge_39 (by decide) (by omega) (fun h39 => ?_) (fun h39 => ?_)
            · refine g_aload_n hC dX9_merge_48 rfl 0 rfl (Or.inr ⟨_, rfl⟩) ?_
              refine g_get hC (by decide +kernel) rfl (hx0.M hM).1 (hx0.M hM).2 0 (by decide) (by decide +kernel) (Or.inl rfl) rfl dX9_merge_49 ?_
              refine g_iload_n hC dX9_merge_52 rfl 1 rfl ?_
              refine g_aald hC 5 rfl (hx0.Mp rfl).1 (hx0.Mp rfl).2 (pj) rfl (show pj < 10 by omega) (by decide) dX9_merge_53 ?_
              refine g_val (w := .ref (b.1 6 (wh S pj))) (congrArg va_rf hp0_p) ?_
              refine g_S (As := [.ref (b.1 6 (wh S pj))]) (st := []) hC 1 dX9_merge_54 gX9_merge_X9_asTable rfl (by decide +kernel) ⟨Nat.le_of_ble_eq_true rfl, Nat.le_of_ble_eq_true rfl⟩ rfl (Nat.le_of_ble_eq_true rfl) ⟨(show 0 + 0 ≤ (rmC S (s_merge S (nI pj) (nI qj)).2) by omega), (show 0 + 0 ≤ (rmS S (s_merge S (nI pj) (nI qj)).2) by omega)⟩ (c2 := 0) (s2 := 0) rfl rfl (x_asTable (some (b.1 6 (wh S pj))) 4 (Or.inr ⟨_, 5, _, rfl, (hx0.T hw_p rfl hb_p), Or.inr (Or.inr (Or.inr (Or.inl ⟨rfl, rfl⟩)))⟩)) ?_
              refine g_astore_n (lv' := [(3, .ref (b.1 6 (wh S pj))), (0, .ref M), (1, .int (nI pj)), (2, .int (nI qj))]) hC dX9_merge_57 rfl (by decide) rfl (Or.inr ⟨_, rfl⟩) ?_
              refine g_aload_n hC dX9_merge_58 rfl 1 rfl (Or.inr ⟨_, rfl⟩) ?_
              refine g_get hC (by decide +kernel) rfl (hx0.M hM).1 (hx0.M hM).2 0 (by decide) (by decide +kernel) (Or.inl rfl) rfl dX9_merge_59 ?_
              refine g_iload_n hC dX9_merge_62 rfl 3 rfl ?_
              refine g_aald hC 5 rfl (hx0.Mp rfl).1 (hx0.Mp rfl).2 (qj) rfl (show qj < 10 by omega) (by decide) dX9_merge_63 ?_
              refine g_val (w := .ref (b.1 6 (wh S qj))) (congrArg va_rf hp0_q) ?_
              refine g_S (As := [.ref (b.1 6 (wh S qj))]) (st := []) hC 1 dX9_merge_64 gX9_merge_X9_asTable rfl (by decide +kernel) ⟨Nat.le_of_ble_eq_true rfl, Nat.le_of_ble_eq_true rfl⟩ rfl (Nat.le_of_ble_eq_true rfl) ⟨(show 0 + 0 ≤ (rmC S (s_merge S (nI pj) (nI qj)).2) by omega), (show 0 + 0 ≤ (rmS S (s_merge S (nI pj) (nI qj)).2) by omega)⟩ (c2 := 0) (s2 := 0) rfl rfl (x_asTable (some (b.1 6 (wh S qj))) 5 (Or.inr ⟨_, 1, _, rfl, (hx0.K hw_q rfl hb_q), Or.inr (Or.inr (Or.inr (Or.inr ⟨rfl, rfl⟩)))⟩)) ?_
              refine g_astore (lv' := [(4, .ref (b.1 6 (wh S qj))), (3, .ref (b.1 6 (wh S pj))), (0, .ref M), (1, .int (nI pj)), (2, .int (nI qj))]) hC dX9_merge_67 (by decide) rfl (Or.inr ⟨_, rfl⟩) ?_
              refine g_aload_n hC dX9_merge_69 rfl 1 rfl (Or.inr ⟨_, rfl⟩) ?_
              refine g_ifnull (o := some (b.1 6 (wh S pj))) (tgt := 78) hC dX9_merge_70 (by decide) (fun h70 => ?_) (fun a70 h70 => ?_)
              · cases h70
              · refine g_aload hC dX9_merge_73 0 rfl (Or.inr ⟨_, rfl⟩) ?_
                refine g_ifnonnull (o := some (b.1 6 (wh S qj))) (tgt := 84) hC dX9_merge_75 (by decide) (fun a75 h75 => ?_) (fun h75 => ?_)
                · refine g_aload_n hC dX9_merge_84 rfl 1 rfl (Or.inr ⟨_, rfl⟩) ?_
                  refine g_getN hC (by decide +kernel) rfl (hx0.T hw_p rfl hb_p).1 (hx0.T hw_p rfl hb_p).2 2 (by decide) (gKK_F ("KeptTerms", 176, "KeptTerms$Table", "termCount", "I") (by decide)) (Or.inl rfl) rfl dX9_merge_85 ?_
                  refine g_istore (lv' := [(5, .int (nI (S.2.1 16 (wh S pj)))), (4, .ref (b.1 6 (wh S qj))), (3, .ref (b.1 6 (wh S pj))), (0, .ref M), (1, .int (nI pj)), (2, .int (nI qj))]) hC dX9_merge_88 (by decide) rfl ?_
                  refine g_aload hC dX9_merge_90 1 rfl (Or.inr ⟨_, rfl⟩) ?_
                  refine g_getN hC (by decide +kernel) rfl (hx0.K hw_q rfl hb_q).1 (hx0.K hw_q rfl hb_q).2 2 (by decide) (gKK_F ("KeptTerms", 176, "KeptTerms$Table", "termCount", "I") (by decide)) (Or.inl rfl) rfl dX9_merge_92 ?_
                  refine g_istore (lv' := [(6, .int (nI (S.2.1 16 (wh S qj)))), (5, .int (nI (S.2.1 16 (wh S pj)))), (4, .ref (b.1 6 (wh S qj))), (3, .ref (b.1 6 (wh S pj))), (0, .ref M), (1, .int (nI pj)), (2, .int (nI qj))]) hC dX9_merge_95 (by decide) rfl ?_
                  refine g_iconst hC dX9_merge_97 (v := nI 0) (by decide) ?_
                  refine g_istore (lv' := [(7, .int (nI 0)), (6, .int (nI (S.2.1 16 (wh S qj)))), (5, .int (nI (S.2.1 16 (wh S pj)))), (4, .ref (b.1 6 (wh S qj))), (3, .ref (b.1 6 (wh S pj))), (0, .ref M), (1, .int (nI pj)), (2, .int (nI qj))]) hC dX9_merge_98 (by decide) rfl ?_
                  have lp : ∀ (m : Nat) (k : Nat) (Z : aS) (b3 : xB) (L3 : List Nat) (f3 : Nat → va_E), S.2.1 16 (wh S qj) - k < m → (k ≤ S.2.1 16 (wh S qj)) → (xR cy Z b3 L3 f3) → (b3.1 9 0 = M) → (b3.1 6 (wh S pj) = b.1 6 (wh S pj)) → (b3.1 6 (wh S qj) = b.1 6 (wh S qj)) → (xG S b b3) → (∀ k9 r9, xV S k9 r9 → xV Z k9 r9) → (mI (wh S pj) (wh S qj) (S.2.1 16 (wh S qj)) k Z) → (Inv Z) → (mgG (wh S pj) (wh S qj) (S.2.1 16 (wh S qj) - k) k (Z.2.1 16 (wh S pj) - S.2.1 16 (wh S pj)) Z = s_merge S (nI pj) (nI qj)) → (mo S Z) → (S.2.1 16 (wh S pj) ≤ Z.2.1 16 (wh S pj)) → (Z.2.1 14 = S.2.1 14) → gW X vwCl 8 L3 f3 (rmC S Z) (rmS S Z) 100 [(7, .int (nI k)), (6, .int (nI (S.2.1 16 (wh S qj)))), (5, .int (nI (S.2.1 16 (wh S pj)))), (4, .ref (b.1 6 (wh S qj))), (3, .ref (b.1 6 (wh S pj))), (0, .ref M)] [] := by
                    intro m
                    induction m with
                    | zero => intros; omega
                    | succ m ih =>
                      intro k Z b3 L3 f3 hm9 hk hx3 hM3 hT3 hU3 hg3 hv3 hmi hiz hg hmo h16 h14
                      have hkp3 : Z.2.1 14 (wh S pj) = 0 := by rw [h14]; exact hb_p
                      have hkq3 : Z.2.1 14 (wh S qj) ≠ 0 := by rw [h14]; exact hb_q
                      have htm := (hmi.1.tk hmi.2.1).2.1
                      have hum := (hmi.1.tk hmi.2.2.1).2.1
                      have hNu := hmi.2.2.2.1
                      refine g_iload hC dX9_merge_100 0 rfl ?_
                      refine g_iload hC dX9_merge_102 1 rfl ?_
                      refine g_icmpN_ge (a := k) (b := S.2.1 16 (wh S qj)) (tgt := 138) hC dX9_merge_104 (by decide) (by omega) (by omega) (fun h104 => ?_) (fun h104 => ?_)
                      · refine g_aload_n hC dX9_merge_138 rfl 4 rfl (Or.inr ⟨_, rfl⟩) ?_
                        refine g_getN hC (by decide +kernel) rfl (hx3.T hmi.2.1 hT3 hkp3).1 (hx3.T hmi.2.1 hT3 hkp3).2 2 (by decide) (gKK_F ("KeptTerms", 176, "KeptTerms$Table", "termCount", "I") (by decide)) (Or.inl rfl) rfl dX9_merge_139 ?_
                        refine g_iload hC dX9_merge_142 2 rfl ?_
                        refine g_isubN (a := Z.2.1 16 (wh S pj)) (b := S.2.1 16 (wh S pj)) hC (by omega) dX9_merge_144 ?_
                        have hE : s_merge S (nI pj) (nI qj) = (nI (Z.2.1 16 (wh S pj) - S.2.1 16 (wh S pj)), Z) := by
                          rw [← hg, show S.2.1 16 (wh S qj) - k = 0 by omega]
                          rfl
                        have hm2 : mo Z (s_merge S (nI pj) (nI qj)).2 := by rw [hE]; exact mo.rf
                        have hra2 := rm_add hmo hm2
                        refine g_widen (c2 := (rmC S (s_merge S (nI pj) (nI qj)).2)) (s2 := (rmS S (s_merge S (nI pj) (nI qj)).2)) (show (rmC S Z) ≤ (rmC S (s_merge S (nI pj) (nI qj)).2) by omega) (show (rmS S Z) ≤ (rmS S (s_merge S (nI pj) (nI qj)).2) by omega) ?_
                        exact g_iret hC hR dX9_merge_145 ⟨b3, congrArg (fun z => some (Value.int (Prod.fst z))) hE.symm, by rw [hE]; exact hx3, hg3⟩
                      · have hrZ0 := hmi.1.tt hmi.2.2.1 (show k < Z.2.1 16 (wh S qj) by omega)
                        have hc16 := (aI_com (t := wh S pj) hmi.1 hmi.2.1 hrZ0 (by have := hmi.2.2.2.2; omega)).2.2.2.2
                        refine g_aload_n hC dX9_merge_107 rfl 5 rfl (Or.inr ⟨_, rfl⟩) ?_
                        refine g_aload_n hC dX9_merge_108 rfl 4 rfl (Or.inr ⟨_, rfl⟩) ?_
                        refine g_aload_n hC dX9_merge_109 rfl 4 rfl (Or.inr ⟨_, rfl⟩) ?_
                        refine g_aload hC dX9_merge_110 3 rfl (Or.inr ⟨_, rfl⟩) ?_
                        refine g_getN hC (by decide +kernel) rfl (hx3.K hmi.2.2.1 hU3 hkq3).1 (hx3.K hmi.2.2.1 hU3 hkq3).2 0 (by decide) (gKK_F ("KeptTerms", 179, "KeptTerms$Table", "terms", "[LKeptTerms$Bytes;") (by decide)) (Or.inl rfl) rfl dX9_merge_112 ?_
                        refine g_iload hC dX9_merge_115 0 rfl ?_
                        refine g_aald hC 4 rfl (hx3.Tt hmi.2.2.1 rfl).1 (hx3.Tt hmi.2.2.1 rfl).2 (k) rfl (show k < 100 by omega) (by decide) dX9_merge_117 ?_
                        refine g_val (w := .ref (b3.1 0 (Z.2.1 20 (100 * wh S qj + k)))) (congrArg va_rf (if_pos (show k < Z.2.1 16 (wh S qj) by omega))) ?_
                        have hrZ := hmi.1.tt hmi.2.2.1 (show k < Z.2.1 16 (wh S qj) by omega)
                        have hcf := comA_f (t := wh S pj) hmi.1 hrZ
                        have hstp := hmi.step (show k < S.2.1 16 (wh S qj) by omega)
                        have hmc := mo_com (S := Z) (t := wh S pj) (r := Z.2.1 20 (100 * wh S qj + k))
                        have hrc := rm_com (Z := Z) (t := wh S pj) (r := Z.2.1 20 (100 * wh S qj + k))
                        have hra := rm_add hmo hmc
                        have hm2 : mo (comS Z (wh S pj) (Z.2.1 20 (100 * wh S qj + k))).2 (s_merge S (nI pj) (nI qj)).2 := by
                          rw [← hg, show S.2.1 16 (wh S qj) - k = (S.2.1 16 (wh S qj) - (k + 1)) + 1 by omega, mgG]
                          split
                          · exact mo.rf
                          · exact mo_mg _ _ _ _
                        have hra2 := rm_add (hmo.tr hmc) hm2
                        have htZ : wh S pj < (comA Z (wh S pj) (Z.2.1 20 (100 * wh S qj + k))).2.1 13 := by rw [hcf.1 13 (by decide) (by decide)]; exact hmi.2.1
                        have hkZ : (comA Z (wh S pj) (Z.2.1 20 (100 * wh S qj + k))).2.2.1 14 (wh S pj) = 0 := by rw [hcf.2.1, h14]; exact hb_p
                        refine g_Vx (As := [.ref (b3.1 0 (Z.2.1 20 (100 * wh S qj + k)))]) (st := [.ref (b.1 6 (wh S pj)), .ref M]) hC 1 dX9_merge_118 rfl (hx3.T hmi.2.1 hT3 hkp3).1 (hx3.T hmi.2.1 hT3 hkp3).2 gX9_merge_X7_admit rfl (by decide +kernel) ⟨Nat.le_of_ble_eq_true rfl, Nat.le_of_ble_eq_true rfl⟩ rfl (Nat.le_of_ble_eq_true rfl) ⟨(show (rmC S Z) + (rmC Z (comA Z (wh S pj) (Z.2.1 20 (100 * wh S qj + k))).2) ≤ (rmC S (s_merge S (nI pj) (nI qj)).2) by omega), (show (rmS S Z) + (rmS Z (comA Z (wh S pj) (Z.2.1 20 (100 * wh S qj + k))).2) ≤ (rmS S (s_merge S (nI pj) (nI qj)).2) by omega)⟩ (c2 := ((rmC S Z) + (rmC Z (comA Z (wh S pj) (Z.2.1 20 (100 * wh S qj + k))).2))) (s2 := ((rmS S Z) + (rmS Z (comA Z (wh S pj) (Z.2.1 20 (100 * wh S qj + k))).2))) rfl rfl (x_admit_T (S := Z) hx3 hmi.1 (by have := hmi.2.2.2.2; omega) _ _ hmi.2.1 hT3 hkp3 _ _ hrZ rfl) (fun v4 L4 f4 hp4 => ?_)
                        obtain ⟨b4, rfl, hx4, hg4⟩ := hp4
                        show gW X vwCl 8 L4 f4 ((rmC S Z) + (rmC Z (comA Z (wh S pj) (Z.2.1 20 (100 * wh S qj + k))).2)) ((rmS S Z) + (rmS Z (comA Z (wh S pj) (Z.2.1 20 (100 * wh S qj + k))).2)) 121 [(7, .int (nI k)), (6, .int (nI (S.2.1 16 (wh S qj)))), (5, .int (nI (S.2.1 16 (wh S pj)))), (4, .ref (b.1 6 (wh S qj))), (3, .ref (b.1 6 (wh S pj))), (0, .ref M)] [.int ((comA Z (wh S pj) (Z.2.1 20 (100 * wh S qj + k))).1), .ref (b.1 6 (wh S pj)), .ref M]
                        refine g_widen (c2 := (rmC S (comS Z (wh S pj) (Z.2.1 20 (100 * wh S qj + k))).2)) (s2 := (rmS S (comS Z (wh S pj) (Z.2.1 20 (100 * wh S qj + k))).2)) (show ((rmC S Z) + (rmC Z (comA Z (wh S pj) (Z.2.1 20 (100 * wh S qj + k))).2)) ≤ (rmC S (comS Z (wh S pj) (Z.2.1 20 (100 * wh S qj + k))).2) by omega) (show ((rmS S Z) + (rmS Z (comA Z (wh S pj) (Z.2.1 20 (100 * wh S qj + k))).2)) ≤ (rmS S (comS Z (wh S pj) (Z.2.1 20 (100 * wh S qj + k))).2) by omega) ?_
                        have hlb := lk_b (S := Z) (r := Z.2.1 20 (100 * wh S qj + k)) (hmi.1.tk hmi.2.1)
                        have hsl := (hmi.1.tk hmi.2.1).sl
                        refine g_Vx (As := [.ref (b.1 6 (wh S pj)), .int ((comA Z (wh S pj) (Z.2.1 20 (100 * wh S qj + k))).1)]) (st := []) hC 2 dX9_merge_121 rfl (hx4.M ((hg4 9 0 (by decide) (by decide) (show 0 < 4 by decide)).trans hM3)).1 (hx4.M ((hg4 9 0 (by decide) (by decide) (show 0 < 4 by decide)).trans hM3)).2 gX9_merge_X9_counted rfl (by decide +kernel) ⟨Nat.le_of_ble_eq_true rfl, Nat.le_of_ble_eq_true rfl⟩ rfl (Nat.le_of_ble_eq_true rfl) ⟨(show (rmC S (comS Z (wh S pj) (Z.2.1 20 (100 * wh S qj + k))).2) + 0 ≤ (rmC S (s_merge S (nI pj) (nI qj)).2) by omega), (show (rmS S (comS Z (wh S pj) (Z.2.1 20 (100 * wh S qj + k))).2) + 0 ≤ (rmS S (s_merge S (nI pj) (nI qj)).2) by omega)⟩ (c2 := (rmC S (comS Z (wh S pj) (Z.2.1 20 (100 * wh S qj + k))).2)) (s2 := (rmS S (comS Z (wh S pj) (Z.2.1 20 (100 * wh S qj + k))).2)) rfl rfl (x_counted_T (S := (comA Z (wh S pj) (Z.2.1 20 (100 * wh S qj + k))).2) hx4 M ((hg4 9 0 (by decide) (by decide) (show 0 < 4 by decide)).trans hM3) _ _ htZ ((hg4 6 (wh S pj) (by decide) (by decide) hmi.2.1).trans hT3) hkZ _ (by rw [hcf.2.2.1]; omega)) (fun v5 L5 f5 hp5 => ?_)
                        obtain ⟨rfl, hx5⟩ := hp5
                        show gW X vwCl 8 L5 f5 (rmC S (comS Z (wh S pj) (Z.2.1 20 (100 * wh S qj + k))).2) (rmS S (comS Z (wh S pj) (Z.2.1 20 (100 * wh S qj + k))).2) 124 [(7, .int (nI k)), (6, .int (nI (S.2.1 16 (wh S qj)))), (5, .int (nI (S.2.1 16 (wh S pj)))), (4, .ref (b.1 6 (wh S qj))), (3, .ref (b.1 6 (wh S pj))), (0, .ref M)] [.int ((comA Z (wh S pj) (Z.2.1 20 (100 * wh S qj + k))).1)]
                        rw [hcf.1 23 (by decide) (by decide), hcf.1 24 (by decide) (by decide), hcf.2.2.1] at hx5
                        have hx9 : xR cy (comS Z (wh S pj) (Z.2.1 20 (100 * wh S qj + k))).2 b4 L5 f5 := by rw [com_A]; exact hx5
                        refine g_bipush hC dX9_merge_124 (v := (-4)) (by decide) ?_
                        refine g_icmp_ne (x := (comA Z (wh S pj) (Z.2.1 20 (100 * wh S qj + k))).1) (y := (-4)) (tgt := 132) hC dX9_merge_126 (by decide) (fun h126 => ?_) (fun h126 => ?_)
                        · refine g_iincN (n := 1) (a := k) (lv' := [(7, .int (nI (k + 1))), (6, .int (nI (S.2.1 16 (wh S qj)))), (5, .int (nI (S.2.1 16 (wh S pj)))), (4, .ref (b.1 6 (wh S qj))), (3, .ref (b.1 6 (wh S pj))), (0, .ref M)]) hC dX9_merge_132 0 rfl (by decide) rfl ?_
                          refine g_goto (tgt := 100) hC dX9_merge_135 (by decide) ?_
                          exact ih (k + 1) (comS Z (wh S pj) (Z.2.1 20 (100 * wh S qj + k))).2 b4 L5 f5 (by omega) (by omega) hx9 ((hg4 9 0 (by decide) (by decide) (show 0 < 4 by decide)).trans hM3) ((hg4 6 (wh S pj) (by decide) (by decide) hmi.2.1).trans hT3) ((hg4 6 (wh S qj) (by decide) (by decide) hmi.2.2.1).trans hU3) (hg3.tr hv3 hg4) (fun k9 r9 hk9 => xV_com hmi.1 hrZ (hv3 k9 r9 hk9)) hstp (hst _ _ _ hiz hrZ) (by rw [← hg, show S.2.1 16 (wh S qj) - k = (S.2.1 16 (wh S qj) - (k + 1)) + 1 by omega, mgG, if_neg (show ¬ (comS Z (wh S pj) (Z.2.1 20 (100 * wh S qj + k))).1 = -4 by rw [com_A]; exact h126)]; congr 1; have := hc16 (wh S pj); omega) (hmo.tr hmc) (by have := hc16 (wh S pj); omega) ((com_14 hmi.1 hrZ).trans h14)
                        · refine g_bipush hC dX9_merge_129 (v := (-4)) (by decide) ?_
                          have hE : s_merge S (nI pj) (nI qj) = (-4, (comS Z (wh S pj) (Z.2.1 20 (100 * wh S qj + k))).2) := by
                            rw [← hg, show S.2.1 16 (wh S qj) - k = (S.2.1 16 (wh S qj) - (k + 1)) + 1 by omega, mgG, if_pos (show (comS Z (wh S pj) (Z.2.1 20 (100 * wh S qj + k))).1 = -4 by rw [com_A]; exact h126)]
                          refine g_widen (c2 := (rmC S (s_merge S (nI pj) (nI qj)).2)) (s2 := (rmS S (s_merge S (nI pj) (nI qj)).2)) (show (rmC S (comS Z (wh S pj) (Z.2.1 20 (100 * wh S qj + k))).2) ≤ (rmC S (s_merge S (nI pj) (nI qj)).2) by omega) (show (rmS S (comS Z (wh S pj) (Z.2.1 20 (100 * wh S qj + k))).2) ≤ (rmS S (s_merge S (nI pj) (nI qj)).2) by omega) ?_
                          exact g_iret hC hR dX9_merge_131 ⟨b4, congrArg (fun z => some (Value.int (Prod.fst z))) hE.symm, by rw [hE]; exact hx9, hg3.tr hv3 hg4⟩
                  have hc_p : castF S pj 4 = 0 := by unfold castF isO; rw [hk_p] <;> decide
                  have hc_q : castF S qj 4 = 0 := by unfold castF isO; rw [hk_q] <;> decide
                  have hbf : bthF S pj qj 4 = 0 := by unfold bthF; rw [hc_p, hc_q] <;> decide
                  have hE0 : s_merge S (nI pj) (nI qj) = mgG (wh S pj) (wh S qj) (S.2.1 16 (wh S qj)) 0 0 (thS S) := by
                    unfold s_merge
                    rw [if_pos h4, if_pos h11, hpl_p, hpl_q, hbf, if_neg (show ¬ 0 < 0 by decide)]
                  have hum := (hI.tk hw_q).2.1
                  have hm0 : mo S (thS S) := mo.cg rfl rfl rfl rfl
                  have hr0 := rm_0 (S := S) (S' := thS S) rfl rfl rfl rfl
                  refine g_lv (lv' := [(7, .int (nI 0)), (6, .int (nI (S.2.1 16 (wh S qj)))), (5, .int (nI (S.2.1 16 (wh S pj)))), (4, .ref (b.1 6 (wh S qj))), (3, .ref (b.1 6 (wh S pj))), (0, .ref M)]) [0, 1, 2, 3, 4, 5] rfl ?_
                  refine g_widen (c2 := rmC S (thS S)) (s2 := rmS S (thS S)) (Nat.zero_le _) (Nat.zero_le _) ?_
                  exact lp (S.2.1 16 (wh S qj) + 1) 0 (thS S) b L f (by omega) (by omega) hx0 hM rfl rfl xG.rf (fun _ _ z => z) ⟨hI0, hw_p, hw_q, Nat.le_refl _, show S.1 4 + (S.2.1 16 (wh S qj) - 0) ≤ 39000 by omega⟩ hInv (by rw [hE0]; show mgG _ _ _ 0 (S.2.1 16 (wh S pj) - S.2.1 16 (wh S pj)) _ = _; rw [Nat.sub_self]; rfl) hm0 (Nat.le_refl _) rfl
                · cases h75
            · exfalso; omega
      · have hw_p : wh S pj < S.1 13 := hI.wt hpj (by omega)
        have hb_p : S.2.1 14 (wh S pj) ≠ 0 := by have := ((hI.2.1 _ hpj).2.2.2.2.2 (by omega)).2; omega
        have hp0_p : plcF (thS S) b pj = some (b.1 6 (wh S pj)) := plc_k hpj hk_p (by decide)
        refine g_aald hC 5 rfl (hx0.Mp rfl).1 (hx0.Mp rfl).2 (pj) rfl (show pj < 10 by omega) (by decide) dX9_merge_21 ?_
        refine g_val (w := .ref (b.1 6 (wh S pj))) (congrArg va_rf hp0_p) ?_
        refine g_iconst hC dX9_merge_22 (v := nI 4) (by decide) ?_
        refine g_S (As := [.ref (b.1 6 (wh S pj)), .int (nI 4)]) (st := []) hC 2 dX9_merge_23 gX9_merge_X9_mayBeCast rfl (by decide +kernel) ⟨Nat.le_of_ble_eq_true rfl, Nat.le_of_ble_eq_true rfl⟩ rfl (Nat.le_of_ble_eq_true rfl) ⟨(show 0 + 0 ≤ (rmC S (s_merge S (nI pj) (nI qj)).2) by omega), (show 0 + 0 ≤ (rmS S (s_merge S (nI pj) (nI qj)).2) by omega)⟩ (c2 := 0) (s2 := 0) rfl rfl (x_mayBeCast (some (b.1 6 (wh S pj))) 5 (Or.inr ⟨_, 1, _, rfl, (hx0.K hw_p rfl hb_p), Or.inr (Or.inr (Or.inr (Or.inr ⟨rfl, rfl⟩)))⟩) 4 (by decide)) ?_
        refine g_ifN_eq (a := 1) (tgt := 42) hC dX9_merge_26 (by decide) (by omega) (fun h26 => ?_) (fun h26 => ?_)
        · exfalso; omega
        · refine g_aload_n hC dX9_merge_29 rfl 0 rfl (Or.inr ⟨_, rfl⟩) ?_
          refine g_get hC (by decide +kernel) rfl (hx0.M hM).1 (hx0.M hM).2 0 (by decide) (by decide +kernel) (Or.inl rfl) rfl dX9_merge_30 ?_
          refine g_iload_n hC dX9_merge_33 rfl 2 rfl ?_
          have h5_q := hI.k5 hqj
          rcases (show kd S qj = 0 ∨ kd S qj = 1 ∨ kd S qj = 2 ∨ kd S qj = 3 ∨ kd S qj = 4 ∨ kd S qj = 5 by omega) with hk_q | hk_q | hk_q | hk_q | hk_q | hk_q
          · have hp0_q : plcF (thS S) b qj = none := plc_0 hqj hk_q
            refine g_aald hC 5 rfl (hx0.Mp rfl).1 (hx0.Mp rfl).2 (qj) rfl (show qj < 10 by omega) (by decide) dX9_merge_34 ?_
            refine g_val (w := .null) (congrArg va_rf hp0_q) ?_
            refine g_iconst hC dX9_merge_35 (v := nI 4) (by decide) ?_
            refine g_S (As := [.null, .int (nI 4)]) (st := []) hC 2 dX9_merge_36 gX9_merge_X9_mayBeCast rfl (by decide +kernel) ⟨Nat.le_of_ble_eq_true rfl, Nat.le_of_ble_eq_true rfl⟩ rfl (Nat.le_of_ble_eq_true rfl) ⟨(show 0 + 0 ≤ (rmC S (s_merge S (nI pj) (nI qj)).2) by omega), (show 0 + 0 ≤ (rmS S (s_merge S (nI pj) (nI qj)).2) by omega)⟩ (c2 := 0) (s2 := 0) rfl rfl (x_mayBeCast none 0 (Or.inl ⟨rfl, rfl⟩) 4 (by decide)) ?_
            refine g_ifN_ne (a := 1) (tgt := 48) hC dX9_merge_39 (by decide) (by omega) (fun h39 => ?_) (fun h39 => ?_)
            · refine g_aload_n hC dX9_merge_48 rfl 0 rfl (Or.inr ⟨_, rfl⟩) ?_
              refine g_get hC (by decide +kernel) rfl (hx0.M hM).1 (hx0.M hM).2 0 (by decide) (by decide +kernel) (Or.inl rfl) rfl dX9_merge_49 ?_
              refine g_iload_n hC dX9_merge_52 rfl 1 rfl ?_
              refine g_aald hC 5 rfl (hx0.Mp rfl).1 (hx0.Mp rfl).2 (pj) rfl (show pj < 10 by omega) (by decide) dX9_merge_53 ?_
              refine g_val (w := .ref (b.1 6 (wh S pj))) (congrArg va_rf hp0_p) ?_
              refine g_S (As := [.ref (b.1 6 (wh S pj))]) (st := []) hC 1 dX9_merge_54 gX9_merge_X9_asTable rfl (by decide +kernel) ⟨Nat.le_of_ble_eq_true rfl, Nat.le_of_ble_eq_true rfl⟩ rfl (Nat.le_of_ble_eq_true rfl) ⟨(show 0 + 0 ≤ (rmC S (s_merge S (nI pj) (nI qj)).2) by omega), (show 0 + 0 ≤ (rmS S (s_merge S (nI pj) (nI qj)).2) by omega)⟩ (c2 := 0) (s2 := 0) rfl rfl (x_asTable (some (b.1 6 (wh S pj))) 5 (Or.inr ⟨_, 1, _, rfl, (hx0.K hw_p rfl hb_p), Or.inr (Or.inr (Or.inr (Or.inr ⟨rfl, rfl⟩)))⟩)) ?_
              refine g_astore_n (lv' := [(3, .ref (b.1 6 (wh S pj))), (0, .ref M), (1, .int (nI pj)), (2, .int (nI qj))]) hC dX9_merge_57 rfl (by decide) rfl (Or.inr ⟨_, rfl⟩) ?_
              refine g_aload_n hC dX9_merge_58 rfl 1 rfl (Or.inr ⟨_, rfl⟩) ?_
              refine g_get hC (by decide +kernel) rfl (hx0.M hM).1 (hx0.M hM).2 0 (by decide) (by decide +kernel) (Or.inl rfl) rfl dX9_merge_59 ?_
              refine g_iload_n hC dX9_merge_62 rfl 3 rfl ?_
              refine g_aald hC 5 rfl (hx0.Mp rfl).1 (hx0.Mp rfl).2 (qj) rfl (show qj < 10 by omega) (by decide) dX9_merge_63 ?_
              refine g_val (w := .null) (congrArg va_rf hp0_q) ?_
              refine g_S (As := [.null]) (st := []) hC 1 dX9_merge_64 gX9_merge_X9_asTable rfl (by decide +kernel) ⟨Nat.le_of_ble_eq_true rfl, Nat.le_of_ble_eq_true rfl⟩ rfl (Nat.le_of_ble_eq_true rfl) ⟨(show 0 + 0 ≤ (rmC S (s_merge S (nI pj) (nI qj)).2) by omega), (show 0 + 0 ≤ (rmS S (s_merge S (nI pj) (nI qj)).2) by omega)⟩ (c2 := 0) (s2 := 0) rfl rfl (x_asTable none 0 (Or.inl ⟨rfl, rfl⟩)) ?_
              refine g_astore (lv' := [(4, .null), (3, .ref (b.1 6 (wh S pj))), (0, .ref M), (1, .int (nI pj)), (2, .int (nI qj))]) hC dX9_merge_67 (by decide) rfl (Or.inl rfl) ?_
              refine g_aload_n hC dX9_merge_69 rfl 1 rfl (Or.inr ⟨_, rfl⟩) ?_
              refine g_ifnull (o := some (b.1 6 (wh S pj))) (tgt := 78) hC dX9_merge_70 (by decide) (fun h70 => ?_) (fun a70 h70 => ?_)
              · cases h70
              · refine g_aload hC dX9_merge_73 0 rfl (Or.inl rfl) ?_
                refine g_ifnonnull (o := none) (tgt := 84) hC dX9_merge_75 (by decide) (fun a75 h75 => ?_) (fun h75 => ?_)
                · cases h75
                · refine g_aload_n hC dX9_merge_78 rfl 2 rfl (Or.inr ⟨_, rfl⟩) ?_
                  refine g_iconst hC dX9_merge_79 (v := nI 1) (by decide) ?_
                  refine g_Vx (As := [.int (nI 1)]) (st := []) hC 1 dX9_merge_80 rfl (hx0.M hM).1 (hx0.M hM).2 gX9_merge_X9_failed rfl (by decide +kernel) ⟨Nat.le_of_ble_eq_true rfl, Nat.le_of_ble_eq_true rfl⟩ rfl (Nat.le_of_ble_eq_true rfl) ⟨(show 0 + 0 ≤ (rmC S (s_merge S (nI pj) (nI qj)).2) by omega), (show 0 + 0 ≤ (rmS S (s_merge S (nI pj) (nI qj)).2) by omega)⟩ (c2 := 0) (s2 := 0) rfl rfl (x_failed hx0 M hM 1) (fun v1 L1 f1 hp1 => ?_)
                  obtain ⟨rfl, hx1⟩ := hp1
                  show gW X vwCl 8 L1 f1 0 0 83 [(4, .null), (3, .ref (b.1 6 (wh S pj))), (0, .ref M), (1, .int (nI pj)), (2, .int (nI qj))] [.int (fA 1)]
                  have hc_p : castF S pj 4 = 0 := by unfold castF isO; rw [hk_p] <;> decide
                  have hc_q : castF S qj 4 = 1 := by unfold castF isO; rw [hk_q] <;> decide
                  have hbf : bthF S pj qj 4 = 1 := by unfold bthF; rw [hc_p, hc_q] <;> decide
                  have hE : s_merge S (nI pj) (nI qj) = (fA 1, (aSc (thS S) 1 1)) := by
                    unfold s_merge
                    rw [if_pos h4, if_pos h11, hpl_p, hpl_q, hbf, if_pos (show 0 < 1 by decide)] <;> rfl
                  refine g_widen (c2 := (rmC S (s_merge S (nI pj) (nI qj)).2)) (s2 := (rmS S (s_merge S (nI pj) (nI qj)).2)) (show 0 ≤ (rmC S (s_merge S (nI pj) (nI qj)).2) by omega) (show 0 ≤ (rmS S (s_merge S (nI pj) (nI qj)).2) by omega) ?_
                  exact g_iret hC hR dX9_merge_83 ⟨b, congrArg (fun z => some (Value.int (Prod.fst z))) hE.symm, by rw [hE]; exact hx1, xG.rf⟩
            · exfalso; omega
          · have hw_q : wh S qj < S.1 4 := hI.wl hqj hk_q
            have hp0_q : plcF (thS S) b qj = some (b.1 0 (wh S qj)) := plc_k hqj hk_q (by decide)
            refine g_aald hC 5 rfl (hx0.Mp rfl).1 (hx0.Mp rfl).2 (qj) rfl (show qj < 10 by omega) (by decide) dX9_merge_34 ?_
            refine g_val (w := .ref (b.1 0 (wh S qj))) (congrArg va_rf hp0_q) ?_
            refine g_iconst hC dX9_merge_35 (v := nI 4) (by decide) ?_
            refine g_S (As := [.ref (b.1 0 (wh S qj)), .int (nI 4)]) (st := []) hC 2 dX9_merge_36 gX9_merge_X9_mayBeCast rfl (by decide +kernel) ⟨Nat.le_of_ble_eq_true rfl, Nat.le_of_ble_eq_true rfl⟩ rfl (Nat.le_of_ble_eq_true rfl) ⟨(show 0 + 0 ≤ (rmC S (s_merge S (nI pj) (nI qj)).2) by omega), (show 0 + 0 ≤ (rmS S (s_merge S (nI pj) (nI qj)).2) by omega)⟩ (c2 := 0) (s2 := 0) rfl rfl (x_mayBeCast (some (b.1 0 (wh S qj))) 1 (Or.inr ⟨_, 0, _, rfl, (hx0.B hw_q rfl), Or.inl ⟨rfl, rfl⟩⟩) 4 (by decide)) ?_
            refine g_ifN_ne (a := 0) (tgt := 48) hC dX9_merge_39 (by decide) (by omega) (fun h39 => ?_) (fun h39 => ?_)
            · exfalso; omega
            · refine g_aload_n hC dX9_merge_42 rfl 0 rfl (Or.inr ⟨_, rfl⟩) ?_
              refine g_iconst hC dX9_merge_43 (v := nI 2) (by decide) ?_
              refine g_Vx (As := [.int (nI 2)]) (st := []) hC 1 dX9_merge_44 rfl (hx0.M hM).1 (hx0.M hM).2 gX9_merge_X9_failed rfl (by decide +kernel) ⟨Nat.le_of_ble_eq_true rfl, Nat.le_of_ble_eq_true rfl⟩ rfl (Nat.le_of_ble_eq_true rfl) ⟨(show 0 + 0 ≤ (rmC S (s_merge S (nI pj) (nI qj)).2) by omega), (show 0 + 0 ≤ (rmS S (s_merge S (nI pj) (nI qj)).2) by omega)⟩ (c2 := 0) (s2 := 0) rfl rfl (x_failed hx0 M hM 2) (fun v1 L1 f1 hp1 => ?_)
              obtain ⟨rfl, hx1⟩ := hp1
              show gW X vwCl 8 L1 f1 0 0 47 [(0, .ref M), (1, .int (nI pj)), (2, .int (nI qj))] [.int (fA 2)]
              have hc_p : castF S pj 4 = 0 := by unfold castF isO; rw [hk_p] <;> decide
              have hc_q : castF S qj 4 = 2 := by unfold castF isO; rw [hk_q] <;> decide
              have hbf : bthF S pj qj 4 = 2 := by unfold bthF; rw [hc_p, hc_q] <;> decide
              have hE : s_merge S (nI pj) (nI qj) = (fA 2, (aSc (thS S) 1 2)) := by
                unfold s_merge
                rw [if_pos h4, if_pos h11, hpl_p, hpl_q, hbf, if_pos (show 0 < 2 by decide)] <;> rfl
              refine g_widen (c2 := (rmC S (s_merge S (nI pj) (nI qj)).2)) (s2 := (rmS S (s_merge S (nI pj) (nI qj)).2)) (show 0 ≤ (rmC S (s_merge S (nI pj) (nI qj)).2) by omega) (show 0 ≤ (rmS S (s_merge S (nI pj) (nI qj)).2) by omega) ?_
              exact g_iret hC hR dX9_merge_47 ⟨b, congrArg (fun z => some (Value.int (Prod.fst z))) hE.symm, by rw [hE]; exact hx1, xG.rf⟩
          · have hw_q : wh S qj < S.1 7 := hI.ws hqj hk_q
            have hp0_q : plcF (thS S) b qj = some (b.1 2 (wh S qj)) := plc_k hqj hk_q (by decide)
            refine g_aald hC 5 rfl (hx0.Mp rfl).1 (hx0.Mp rfl).2 (qj) rfl (show qj < 10 by omega) (by decide) dX9_merge_34 ?_
            refine g_val (w := .ref (b.1 2 (wh S qj))) (congrArg va_rf hp0_q) ?_
            refine g_iconst hC dX9_merge_35 (v := nI 4) (by decide) ?_
            refine g_S (As := [.ref (b.1 2 (wh S qj)), .int (nI 4)]) (st := []) hC 2 dX9_merge_36 gX9_merge_X9_mayBeCast rfl (by decide +kernel) ⟨Nat.le_of_ble_eq_true rfl, Nat.le_of_ble_eq_true rfl⟩ rfl (Nat.le_of_ble_eq_true rfl) ⟨(show 0 + 0 ≤ (rmC S (s_merge S (nI pj) (nI qj)).2) by omega), (show 0 + 0 ≤ (rmS S (s_merge S (nI pj) (nI qj)).2) by omega)⟩ (c2 := 0) (s2 := 0) rfl rfl (x_mayBeCast (some (b.1 2 (wh S qj))) 2 (Or.inr ⟨_, 4, _, rfl, (hx0.G hw_q rfl), Or.inr (Or.inl ⟨rfl, rfl⟩)⟩) 4 (by decide)) ?_
            refine g_ifN_ne (a := 0) (tgt := 48) hC dX9_merge_39 (by decide) (by omega) (fun h39 => ?_) (fun h39 => ?_)
            · exfalso; omega
            · refine g_aload_n hC dX9_merge_42 rfl 0 rfl (Or.inr ⟨_, rfl⟩) ?_
              refine g_iconst hC dX9_merge_43 (v := nI 2) (by decide) ?_
              refine g_Vx (As := [.int (nI 2)]) (st := []) hC 1 dX9_merge_44 rfl (hx0.M hM).1 (hx0.M hM).2 gX9_merge_X9_failed rfl (by decide +kernel) ⟨Nat.le_of_ble_eq_true rfl, Nat.le_of_ble_eq_true rfl⟩ rfl (Nat.le_of_ble_eq_true rfl) ⟨(show 0 + 0 ≤ (rmC S (s_merge S (nI pj) (nI qj)).2) by omega), (show 0 + 0 ≤ (rmS S (s_merge S (nI pj) (nI qj)).2) by omega)⟩ (c2 := 0) (s2 := 0) rfl rfl (x_failed hx0 M hM 2) (fun v1 L1 f1 hp1 => ?_)
              obtain ⟨rfl, hx1⟩ := hp1
              show gW X vwCl 8 L1 f1 0 0 47 [(0, .ref M), (1, .int (nI pj)), (2, .int (nI qj))] [.int (fA 2)]
              have hc_p : castF S pj 4 = 0 := by unfold castF isO; rw [hk_p] <;> decide
              have hc_q : castF S qj 4 = 2 := by unfold castF isO; rw [hk_q] <;> decide
              have hbf : bthF S pj qj 4 = 2 := by unfold bthF; rw [hc_p, hc_q] <;> decide
              have hE : s_merge S (nI pj) (nI qj) = (fA 2, (aSc (thS S) 1 2)) := by
                unfold s_merge
                rw [if_pos h4, if_pos h11, hpl_p, hpl_q, hbf, if_pos (show 0 < 2 by decide)] <;> rfl
              refine g_widen (c2 := (rmC S (s_merge S (nI pj) (nI qj)).2)) (s2 := (rmS S (s_merge S (nI pj) (nI qj)).2)) (show 0 ≤ (rmC S (s_merge S (nI pj) (nI qj)).2) by omega) (show 0 ≤ (rmS S (s_merge S (nI pj) (nI qj)).2) by omega) ?_
              exact g_iret hC hR dX9_merge_47 ⟨b, congrArg (fun z => some (Value.int (Prod.fst z))) hE.symm, by rw [hE]; exact hx1, xG.rf⟩
          · have hw_q : wh S qj < S.1 10 := hI.wr hqj hk_q
            have hp0_q : plcF (thS S) b qj = some (b.1 4 (wh S qj)) := plc_k hqj hk_q (by decide)
            refine g_aald hC 5 rfl (hx0.Mp rfl).1 (hx0.Mp rfl).2 (qj) rfl (show qj < 10 by omega) (by decide) dX9_merge_34 ?_
            refine g_val (w := .ref (b.1 4 (wh S qj))) (congrArg va_rf hp0_q) ?_
            refine g_iconst hC dX9_merge_35 (v := nI 4) (by decide) ?_
            refine g_S (As := [.ref (b.1 4 (wh S qj)), .int (nI 4)]) (st := []) hC 2 dX9_merge_36 gX9_merge_X9_mayBeCast rfl (by decide +kernel) ⟨Nat.le_of_ble_eq_true rfl, Nat.le_of_ble_eq_true rfl⟩ rfl (Nat.le_of_ble_eq_true rfl) ⟨(show 0 + 0 ≤ (rmC S (s_merge S (nI pj) (nI qj)).2) by omega), (show 0 + 0 ≤ (rmS S (s_merge S (nI pj) (nI qj)).2) by omega)⟩ (c2 := 0) (s2 := 0) rfl rfl (x_mayBeCast (some (b.1 4 (wh S qj))) 3 (Or.inr ⟨_, 3, _, rfl, (hx0.W hw_q rfl), Or.inr (Or.inr (Or.inl ⟨rfl, rfl⟩))⟩) 4 (by decide)) ?_
            refine g_ifN_ne (a := 0) (tgt := 48) hC dX9_merge_39 (by decide) (by omega) (fun h39 => ?_) (fun h39 => ?_)
            · exfalso; omega
            · refine g_aload_n hC dX9_merge_42 rfl 0 rfl (Or.inr ⟨_, rfl⟩) ?_
              refine g_iconst hC dX9_merge_43 (v := nI 2) (by decide) ?_
              refine g_Vx (As := [.int (nI 2)]) (st := []) hC 1 dX9_merge_44 rfl (hx0.M hM).1 (hx0.M hM).2 gX9_merge_X9_failed rfl (by decide +kernel) ⟨Nat.le_of_ble_eq_true rfl, Nat.le_of_ble_eq_true rfl⟩ rfl (Nat.le_of_ble_eq_true rfl) ⟨(show 0 + 0 ≤ (rmC S (s_merge S (nI pj) (nI qj)).2) by omega), (show 0 + 0 ≤ (rmS S (s_merge S (nI pj) (nI qj)).2) by omega)⟩ (c2 := 0) (s2 := 0) rfl rfl (x_failed hx0 M hM 2) (fun v1 L1 f1 hp1 => ?_)
              obtain ⟨rfl, hx1⟩ := hp1
              show gW X vwCl 8 L1 f1 0 0 47 [(0, .ref M), (1, .int (nI pj)), (2, .int (nI qj))] [.int (fA 2)]
              have hc_p : castF S pj 4 = 0 := by unfold castF isO; rw [hk_p] <;> decide
              have hc_q : castF S qj 4 = 2 := by unfold castF isO; rw [hk_q] <;> decide
              have hbf : bthF S pj qj 4 = 2 := by unfold bthF; rw [hc_p, hc_q] <;> decide
              have hE : s_merge S (nI pj) (nI qj) = (fA 2, (aSc (thS S) 1 2)) := by
                unfold s_merge
                rw [if_pos h4, if_pos h11, hpl_p, hpl_q, hbf, if_pos (show 0 < 2 by decide)] <;> rfl
              refine g_widen (c2 := (rmC S (s_merge S (nI pj) (nI qj)).2)) (s2 := (rmS S (s_merge S (nI pj) (nI qj)).2)) (show 0 ≤ (rmC S (s_merge S (nI pj) (nI qj)).2) by omega) (show 0 ≤ (rmS S (s_merge S (nI pj) (nI qj)).2) by omega) ?_
              exact g_iret hC hR dX9_merge_47 ⟨b, congrArg (fun z => some (Value.int (Prod.fst z))) hE.symm, by rw [hE]; exact hx1, xG.rf⟩
          · have hw_q : wh S qj < S.1 13 := hI.wt hqj (by omega)
            have hb_q : S.2.1 14 (wh S qj) = 0 := by have := ((hI.2.1 _ hqj).2.2.2.2.2 (by omega)).2; omega
            have hp0_q : plcF (thS S) b qj = some (b.1 6 (wh S qj)) := plc_k hqj hk_q (by decide)
            refine g_aald hC 5 rfl (hx0.Mp rfl).1 (hx0.Mp rfl).2 (qj) rfl (show qj < 10 by omega) (by decide) dX9_merge_34 ?_
            refine g_val (w := .ref (b.1 6 (wh S qj))) (congrArg va_rf hp0_q) ?_
            refine g_iconst hC dX9_merge_35 (v := nI 4) (by decide) ?_
            refine g_S (As := [.ref (b.1 6 (wh S qj)), .int (nI 4)]) (st := []) hC 2 dX9_merge_36 gX9_merge_X9_mayBeCast rfl (by decide +kernel) ⟨Nat.le_of_ble_eq_true rfl, Nat.le_of_ble_eq_true rfl⟩ rfl (Nat.le_of_ble_eq_true rfl) ⟨(show 0 + 0 ≤ (rmC S (s_merge S (nI pj) (nI qj)).2) by omega), (show 0 + 0 ≤ (rmS S (s_merge S (nI pj) (nI qj)).2) by omega)⟩ (c2 := 0) (s2 := 0) rfl rfl (x_mayBeCast (some (b.1 6 (wh S qj))) 4 (Or.inr ⟨_, 5, _, rfl, (hx0.T hw_q rfl hb_q), Or.inr (Or.inr (Or.inr (Or.inl ⟨rfl, rfl⟩)))⟩) 4 (by decide)) ?_
            refine g_ifN_ne (a := 1) (tgt := 48) hC dX9_merge_39 (by decide) (by omega) (fun h39 => ?_) (fun h39 => ?_)
            · refine g_aload_n hC dX9_merge_48 rfl 0 rfl (Or.inr ⟨_, rfl⟩) ?_
              refine g_get hC (by decide +kernel) rfl (hx0.M hM).1 (hx0.M hM).2 0 (by decide) (by decide +kernel) (Or.inl rfl) rfl dX9_merge_49 ?_
              refine g_iload_n hC dX9_merge_52 rfl 1 rfl ?_
              refine g_aald hC 5 rfl (hx0.Mp rfl).1 (hx0.Mp rfl).2 (pj) rfl (show pj < 10 by omega) (by decide) dX9_merge_53 ?_
              refine g_val (w := .ref (b.1 6 (wh S pj))) (congrArg va_rf hp0_p) ?_
              refine g_S (As := [.ref (b.1 6 (wh S pj))]) (st := []) hC 1 dX9_merge_54 gX9_merge_X9_asTable rfl (by decide +kernel) ⟨Nat.le_of_ble_eq_true rfl, Nat.le_of_ble_eq_true rfl⟩ rfl (Nat.le_of_ble_eq_true rfl) ⟨(show 0 + 0 ≤ (rmC S (s_merge S (nI pj) (nI qj)).2) by omega), (show 0 + 0 ≤ (rmS S (s_merge S (nI pj) (nI qj)).2) by omega)⟩ (c2 := 0) (s2 := 0) rfl rfl (x_asTable (some (b.1 6 (wh S pj))) 5 (Or.inr ⟨_, 1, _, rfl, (hx0.K hw_p rfl hb_p), Or.inr (Or.inr (Or.inr (Or.inr ⟨rfl, rfl⟩)))⟩)) ?_
              refine g_astore_n (lv' := [(3, .ref (b.1 6 (wh S pj))), (0, .ref M), (1, .int (nI pj)), (2, .int (nI qj))]) hC dX9_merge_57 rfl (by decide) rfl (Or.inr ⟨_, rfl⟩) ?_
              refine g_aload_n hC dX9_merge_58 rfl 1 rfl (Or.inr ⟨_, rfl⟩) ?_
              refine g_get hC (by decide +kernel) rfl (hx0.M hM).1 (hx0.M hM).2 0 (by decide) (by decide +kernel) (Or.inl rfl) rfl dX9_merge_59 ?_
              refine g_iload_n hC dX9_merge_62 rfl 3 rfl ?_
              refine g_aald hC 5 rfl (hx0.Mp rfl).1 (hx0.Mp rfl).2 (qj) rfl (show qj < 10 by omega) (by decide) dX9_merge_63 ?_
              refine g_val (w := .ref (b.1 6 (wh S qj))) (congrArg va_rf hp0_q) ?_
              refine g_S (As := [.ref (b.1 6 (wh S qj))]) (st := []) hC 1 dX9_merge_64 gX9_merge_X9_asTable rfl (by decide +kernel) ⟨Nat.le_of_ble_eq_true rfl, Nat.le_of_ble_eq_true rfl⟩ rfl (Nat.le_of_ble_eq_true rfl) ⟨(show 0 + 0 ≤ (rmC S (s_merge S (nI pj) (nI qj)).2) by omega), (show 0 + 0 ≤ (rmS S (s_merge S (nI pj) (nI qj)).2) by omega)⟩ (c2 := 0) (s2 := 0) rfl rfl (x_asTable (some (b.1 6 (wh S qj))) 4 (Or.inr ⟨_, 5, _, rfl, (hx0.T hw_q rfl hb_q), Or.inr (Or.inr (Or.inr (Or.inl ⟨rfl, rfl⟩)))⟩)) ?_
              refine g_astore (lv' := [(4, .ref (b.1 6 (wh S qj))), (3, .ref (b.1 6 (wh S pj))), (0, .ref M), (1, .int (nI pj)), (2, .int (nI qj))]) hC dX9_merge_67 (by decide) rfl (Or.inr ⟨_, rfl⟩) ?_
              refine g_aload_n hC dX9_merge_69 rfl 1 rfl (Or.inr ⟨_, rfl⟩) ?_
              refine g_ifnull (o := some (b.1 6 (wh S pj))) (tgt := 78) hC dX9_merge_70 (by decide) (fun h70 => ?_) (fun a70 h70 => ?_)
              · cases h70
              · refine g_aload hC dX9_merge_73 0 rfl (Or.inr ⟨_, rfl⟩) ?_
                refine g_ifnonnull (o := some (b.1 6 (wh S qj))) (tgt := 84) hC dX9_merge_75 (by decide) (fun a75 h75 => ?_) (fun h75 => ?_)
                · refine g_aload_n hC dX9_merge_84 rfl 1 rfl (Or.inr ⟨_, rfl⟩) ?_
                  refine g_getN hC (by decide +kernel) rfl (hx0.K hw_p rfl hb_p).1 (hx0.K hw_p rfl hb_p).2 2 (by decide) (gKK_F ("KeptTerms", 176, "KeptTerms$Table", "termCount", "I") (by decide)) (Or.inl rfl) rfl dX9_merge_85 ?_
                  refine g_istore (lv' := [(5, .int (nI (S.2.1 16 (wh S pj)))), (4, .ref (b.1 6 (wh S qj))), (3, .ref (b.1 6 (wh S pj))), (0, .ref M), (1, .int (nI pj)), (2, .int (nI qj))]) hC dX9_merge_88 (by decide) rfl ?_
                  refine g_aload hC dX9_merge_90 1 rfl (Or.inr ⟨_, rfl⟩) ?_
                  refine g_getN hC (by decide +kernel) rfl (hx0.T hw_q rfl hb_q).1 (hx0.T hw_q rfl hb_q).2 2 (by decide) (gKK_F ("KeptTerms", 176, "KeptTerms$Table", "termCount", "I") (by decide)) (Or.inl rfl) rfl dX9_merge_92 ?_
                  refine g_istore (lv' := [(6, .int (nI (S.2.1 16 (wh S qj)))), (5, .int (nI (S.2.1 16 (wh S pj)))), (4, .ref (b.1 6 (wh S qj))), (3, .ref (b.1 6 (wh S pj))), (0, .ref M), (1, .int (nI pj)), (2, .int (nI qj))]) hC dX9_merge_95 (by decide) rfl ?_
                  refine g_iconst hC dX9_merge_97 (v := nI 0) (by decide) ?_
                  refine g_istore (lv' := [(7, .int (nI 0)), (6, .int (nI (S.2.1 16 (wh S qj)))), (5, .int (nI (S.2.1 16 (wh S pj)))), (4, .ref (b.1 6 (wh S qj))), (3, .ref (b.1 6 (wh S pj))), (0, .ref M), (1, .int (nI pj)), (2, .int (nI qj))]) hC dX9_merge_98 (by decide) rfl ?_
                  have lp : ∀ (m : Nat) (k : Nat) (Z : aS) (b3 : xB) (L3 : List Nat) (f3 : Nat → va_E), S.2.1 16 (wh S qj) - k < m → (k ≤ S.2.1 16 (wh S qj)) → (xR cy Z b3 L3 f3) → (b3.1 9 0 = M) → (b3.1 6 (wh S pj) = b.1 6 (wh S pj)) → (b3.1 6 (wh S qj) = b.1 6 (wh S qj)) → (xG S b b3) → (∀ k9 r9, xV S k9 r9 → xV Z k9 r9) → (mI (wh S pj) (wh S qj) (S.2.1 16 (wh S qj)) k Z) → (Inv Z) → (mgG (wh S pj) (wh S qj) (S.2.1 16 (wh S qj) - k) k (Z.2.1 16 (wh S pj) - S.2.1 16 (wh S pj)) Z = s_merge S (nI pj) (nI qj)) → (mo S Z) → (S.2.1 16 (wh S pj) ≤ Z.2.1 16 (wh S pj)) → (Z.2.1 14 = S.2.1 14) → gW X vwCl 8 L3 f3 (rmC S Z) (rmS S Z) 100 [(7, .int (nI k)), (6, .int (nI (S.2.1 16 (wh S qj)))), (5, .int (nI (S.2.1 16 (wh S pj)))), (4, .ref (b.1 6 (wh S qj))), (3, .ref (b.1 6 (wh S pj))), (0, .ref M)] [] := by
                    intro m
                    induction m with
                    | zero => intros; omega
                    | succ m ih =>
                      intro k Z b3 L3 f3 hm9 hk hx3 hM3 hT3 hU3 hg3 hv3 hmi hiz hg hmo h16 h14
                      have hkp3 : Z.2.1 14 (wh S pj) ≠ 0 := by rw [h14]; exact hb_p
                      have hkq3 : Z.2.1 14 (wh S qj) = 0 := by rw [h14]; exact hb_q
                      have htm := (hmi.1.tk hmi.2.1).2.1
                      have hum := (hmi.1.tk hmi.2.2.1).2.1
                      have hNu := hmi.2.2.2.1
                      refine g_iload hC dX9_merge_100 0 rfl ?_
                      refine g_iload hC dX9_merge_102 1 rfl ?_
                      refine g_icmpN_ge (a := k) (b := S.2.1 16 (wh S qj)) (tgt := 138) hC dX9_merge_104 (by decide) (by omega) (by omega) (fun h104 => ?_) (fun h104 => ?_)
                      · refine g_aload_n hC dX9_merge_138 rfl 4 rfl (Or.inr ⟨_, rfl⟩) ?_
                        refine g_getN hC (by decide +kernel) rfl (hx3.K hmi.2.1 hT3 hkp3).1 (hx3.K hmi.2.1 hT3 hkp3).2 2 (by decide) (gKK_F ("KeptTerms", 176, "KeptTerms$Table", "termCount", "I") (by decide)) (Or.inl rfl) rfl dX9_merge_139 ?_
                        refine g_iload hC dX9_merge_142 2 rfl ?_
                        refine g_isubN (a := Z.2.1 16 (wh S pj)) (b := S.2.1 16 (wh S pj)) hC (by omega) dX9_merge_144 ?_
                        have hE : s_merge S (nI pj) (nI qj) = (nI (Z.2.1 16 (wh S pj) - S.2.1 16 (wh S pj)), Z) := by
                          rw [← hg, show S.2.1 16 (wh S qj) - k = 0 by omega]
                          rfl
                        have hm2 : mo Z (s_merge S (nI pj) (nI qj)).2 := by rw [hE]; exact mo.rf
                        have hra2 := rm_add hmo hm2
                        refine g_widen (c2 := (rmC S (s_merge S (nI pj) (nI qj)).2)) (s2 := (rmS S (s_merge S (nI pj) (nI qj)).2)) (show (rmC S Z) ≤ (rmC S (s_merge S (nI pj) (nI qj)).2) by omega) (show (rmS S Z) ≤ (rmS S (s_merge S (nI pj) (nI qj)).2) by omega) ?_
                        exact g_iret hC hR dX9_merge_145 ⟨b3, congrArg (fun z => some (Value.int (Prod.fst z))) hE.symm, by rw [hE]; exact hx3, hg3⟩
                      · have hrZ0 := hmi.1.tt hmi.2.2.1 (show k < Z.2.1 16 (wh S qj) by omega)
                        have hc16 := (aI_com (t := wh S pj) hmi.1 hmi.2.1 hrZ0 (by have := hmi.2.2.2.2; omega)).2.2.2.2
                        refine g_aload_n hC dX9_merge_107 rfl 5 rfl (Or.inr ⟨_, rfl⟩) ?_
                        refine g_aload_n hC dX9_merge_108 rfl 4 rfl (Or.inr ⟨_, rfl⟩) ?_
                        refine g_aload_n hC dX9_merge_109 rfl 4 rfl (Or.inr ⟨_, rfl⟩) ?_
                        refine g_aload hC dX9_merge_110 3 rfl (Or.inr ⟨_, rfl⟩) ?_
                        refine g_getN hC (by decide +kernel) rfl (hx3.T hmi.2.2.1 hU3 hkq3).1 (hx3.T hmi.2.2.1 hU3 hkq3).2 0 (by decide) (gKK_F ("KeptTerms", 179, "KeptTerms$Table", "terms", "[LKeptTerms$Bytes;") (by decide)) (Or.inl rfl) rfl dX9_merge_112 ?_
                        refine g_iload hC dX9_merge_115 0 rfl ?_
                        refine g_aald hC 4 rfl (hx3.Tt hmi.2.2.1 rfl).1 (hx3.Tt hmi.2.2.1 rfl).2 (k) rfl (show k < 100 by omega) (by decide) dX9_merge_117 ?_
                        refine g_val (w := .ref (b3.1 0 (Z.2.1 20 (100 * wh S qj + k)))) (congrArg va_rf (if_pos (show k < Z.2.1 16 (wh S qj) by omega))) ?_
                        have hrZ := hmi.1.tt hmi.2.2.1 (show k < Z.2.1 16 (wh S qj) by omega)
                        have hcf := comA_f (t := wh S pj) hmi.1 hrZ
                        have hstp := hmi.step (show k < S.2.1 16 (wh S qj) by omega)
                        have hmc := mo_com (S := Z) (t := wh S pj) (r := Z.2.1 20 (100 * wh S qj + k))
                        have hrc := rm_com (Z := Z) (t := wh S pj) (r := Z.2.1 20 (100 * wh S qj + k))
                        have hra := rm_add hmo hmc
                        have hm2 : mo (comS Z (wh S pj) (Z.2.1 20 (100 * wh S qj + k))).2 (s_merge S (nI pj) (nI qj)).2 := by
                          rw [← hg, show S.2.1 16 (wh S qj) - k = (S.2.1 16 (wh S qj) - (k + 1)) + 1 by omega, mgG]
                          split
                          · exact mo.rf
                          · exact mo_mg _ _ _ _
                        have hra2 := rm_add (hmo.tr hmc) hm2
                        have htZ : wh S pj < (comA Z (wh S pj) (Z.2.1 20 (100 * wh S qj + k))).2.1 13 := by rw [hcf.1 13 (by decide) (by decide)]; exact hmi.2.1
                        have hkZ : (comA Z (wh S pj) (Z.2.1 20 (100 * wh S qj + k))).2.2.1 14 (wh S pj) ≠ 0 := by rw [hcf.2.1, h14]; exact hb_p
                        refine g_Ux (As := [.ref (b3.1 0 (Z.2.1 20 (100 * wh S qj + k)))]) (st := [.ref (b.1 6 (wh S pj)), .ref M]) hC 1 dX9_merge_118 rfl (hx3.K hmi.2.1 hT3 hkp3).1 (hx3.K hmi.2.1 hT3 hkp3).2 gX9_merge_X7_admit_u163X1 rfl rfl (by decide +kernel) ⟨Nat.le_of_ble_eq_true rfl, Nat.le_of_ble_eq_true rfl⟩ rfl (Nat.le_of_ble_eq_true rfl) ⟨(show (rmC S Z) + (rmC Z (comA Z (wh S pj) (Z.2.1 20 (100 * wh S qj + k))).2) ≤ (rmC S (s_merge S (nI pj) (nI qj)).2) by omega), (show (rmS S Z) + (rmS Z (comA Z (wh S pj) (Z.2.1 20 (100 * wh S qj + k))).2) ≤ (rmS S (s_merge S (nI pj) (nI qj)).2) by omega)⟩ (c2 := ((rmC S Z) + (rmC Z (comA Z (wh S pj) (Z.2.1 20 (100 * wh S qj + k))).2))) (s2 := ((rmS S Z) + (rmS Z (comA Z (wh S pj) (Z.2.1 20 (100 * wh S qj + k))).2))) rfl rfl (x_admit_K (S := Z) hx3 hmi.1 (by have := hmi.2.2.2.2; omega) (h24 Z hiz) _ _ hmi.2.1 hT3 hkp3 _ _ hrZ rfl) (fun v4 L4 f4 hp4 => ?_)
                        obtain ⟨b4, rfl, hx4, hg4⟩ := hp4
                        show gW X vwCl 8 L4 f4 ((rmC S Z) + (rmC Z (comA Z (wh S pj) (Z.2.1 20 (100 * wh S qj + k))).2)) ((rmS S Z) + (rmS Z (comA Z (wh S pj) (Z.2.1 20 (100 * wh S qj + k))).2)) 121 [(7, .int (nI k)), (6, .int (nI (S.2.1 16 (wh S qj)))), (5, .int (nI (S.2.1 16 (wh S pj)))), (4, .ref (b.1 6 (wh S qj))), (3, .ref (b.1 6 (wh S pj))), (0, .ref M)] [.int ((comA Z (wh S pj) (Z.2.1 20 (100 * wh S qj + k))).1), .ref (b.1 6 (wh S pj)), .ref M]
                        refine g_widen (c2 := (rmC S (comS Z (wh S pj) (Z.2.1 20 (100 * wh S qj + k))).2)) (s2 := (rmS S (comS Z (wh S pj) (Z.2.1 20 (100 * wh S qj + k))).2)) (show ((rmC S Z) + (rmC Z (comA Z (wh S pj) (Z.2.1 20 (100 * wh S qj + k))).2)) ≤ (rmC S (comS Z (wh S pj) (Z.2.1 20 (100 * wh S qj + k))).2) by omega) (show ((rmS S Z) + (rmS Z (comA Z (wh S pj) (Z.2.1 20 (100 * wh S qj + k))).2)) ≤ (rmS S (comS Z (wh S pj) (Z.2.1 20 (100 * wh S qj + k))).2) by omega) ?_
                        have hlb := lk_b (S := Z) (r := Z.2.1 20 (100 * wh S qj + k)) (hmi.1.tk hmi.2.1)
                        have hsl := (hmi.1.tk hmi.2.1).sl
                        refine g_Vx (As := [.ref (b.1 6 (wh S pj)), .int ((comA Z (wh S pj) (Z.2.1 20 (100 * wh S qj + k))).1)]) (st := []) hC 2 dX9_merge_121 rfl (hx4.M ((hg4 9 0 (by decide) (by decide) (show 0 < 4 by decide)).trans hM3)).1 (hx4.M ((hg4 9 0 (by decide) (by decide) (show 0 < 4 by decide)).trans hM3)).2 gX9_merge_X9_counted rfl (by decide +kernel) ⟨Nat.le_of_ble_eq_true rfl, Nat.le_of_ble_eq_true rfl⟩ rfl (Nat.le_of_ble_eq_true rfl) ⟨(show (rmC S (comS Z (wh S pj) (Z.2.1 20 (100 * wh S qj + k))).2) + 0 ≤ (rmC S (s_merge S (nI pj) (nI qj)).2) by omega), (show (rmS S (comS Z (wh S pj) (Z.2.1 20 (100 * wh S qj + k))).2) + 0 ≤ (rmS S (s_merge S (nI pj) (nI qj)).2) by omega)⟩ (c2 := (rmC S (comS Z (wh S pj) (Z.2.1 20 (100 * wh S qj + k))).2)) (s2 := (rmS S (comS Z (wh S pj) (Z.2.1 20 (100 * wh S qj + k))).2)) rfl rfl (x_counted_K (S := (comA Z (wh S pj) (Z.2.1 20 (100 * wh S qj + k))).2) hx4 M ((hg4 9 0 (by decide) (by decide) (show 0 < 4 by decide)).trans hM3) _ _ htZ ((hg4 6 (wh S pj) (by decide) (by decide) hmi.2.1).trans hT3) hkZ _ (by rw [hcf.2.2.1]; omega)) (fun v5 L5 f5 hp5 => ?_)
                        obtain ⟨rfl, hx5⟩ := hp5
                        show gW X vwCl 8 L5 f5 (rmC S (comS Z (wh S pj) (Z.2.1 20 (100 * wh S qj + k))).2) (rmS S (comS Z (wh S pj) (Z.2.1 20 (100 * wh S qj + k))).2) 124 [(7, .int (nI k)), (6, .int (nI (S.2.1 16 (wh S qj)))), (5, .int (nI (S.2.1 16 (wh S pj)))), (4, .ref (b.1 6 (wh S qj))), (3, .ref (b.1 6 (wh S pj))), (0, .ref M)] [.int ((comA Z (wh S pj) (Z.2.1 20 (100 * wh S qj + k))).1)]
                        rw [hcf.1 23 (by decide) (by decide), hcf.1 24 (by decide) (by decide), hcf.2.2.1] at hx5
                        have hx9 : xR cy (comS Z (wh S pj) (Z.2.1 20 (100 * wh S qj + k))).2 b4 L5 f5 := by rw [com_A]; exact hx5
                        refine g_bipush hC dX9_merge_124 (v := (-4)) (by decide) ?_
                        refine g_icmp_ne (x := (comA Z (wh S pj) (Z.2.1 20 (100 * wh S qj + k))).1) (y := (-4)) (tgt := 132) hC dX9_merge_126 (by decide) (fun h126 => ?_) (fun h126 => ?_)
                        · refine g_iincN (n := 1) (a := k) (lv' := [(7, .int (nI (k + 1))), (6, .int (nI (S.2.1 16 (wh S qj)))), (5, .int (nI (S.2.1 16 (wh S pj)))), (4, .ref (b.1 6 (wh S qj))), (3, .ref (b.1 6 (wh S pj))), (0, .ref M)]) hC dX9_merge_132 0 rfl (by decide) rfl ?_
                          refine g_goto (tgt := 100) hC dX9_merge_135 (by decide) ?_
                          exact ih (k + 1) (comS Z (wh S pj) (Z.2.1 20 (100 * wh S qj + k))).2 b4 L5 f5 (by omega) (by omega) hx9 ((hg4 9 0 (by decide) (by decide) (show 0 < 4 by decide)).trans hM3) ((hg4 6 (wh S pj) (by decide) (by decide) hmi.2.1).trans hT3) ((hg4 6 (wh S qj) (by decide) (by decide) hmi.2.2.1).trans hU3) (hg3.tr hv3 hg4) (fun k9 r9 hk9 => xV_com hmi.1 hrZ (hv3 k9 r9 hk9)) hstp (hst _ _ _ hiz hrZ) (by rw [← hg, show S.2.1 16 (wh S qj) - k = (S.2.1 16 (wh S qj) - (k + 1)) + 1 by omega, mgG, if_neg (show ¬ (comS Z (wh S pj) (Z.2.1 20 (100 * wh S qj + k))).1 = -4 by rw [com_A]; exact h126)]; congr 1; have := hc16 (wh S pj); omega) (hmo.tr hmc) (by have := hc16 (wh S pj); omega) ((com_14 hmi.1 hrZ).trans h14)
                        · refine g_bipush hC dX9_merge_129 (v := (-4)) (by decide) ?_
                          have hE : s_merge S (nI pj) (nI qj) = (-4, (comS Z (wh S pj) (Z.2.1 20 (100 * wh S qj + k))).2) := by
                            rw [← hg, show S.2.1 16 (wh S qj) - k = (S.2.1 16 (wh S qj) - (k + 1)) + 1 by omega, mgG, if_pos (show (comS Z (wh S pj) (Z.2.1 20 (100 * wh S qj + k))).1 = -4 by rw [com_A]; exact h126)]
                          refine g_widen (c2 := (rmC S (s_merge S (nI pj) (nI qj)).2)) (s2 := (rmS S (s_merge S (nI pj) (nI qj)).2)) (show (rmC S (comS Z (wh S pj) (Z.2.1 20 (100 * wh S qj + k))).2) ≤ (rmC S (s_merge S (nI pj) (nI qj)).2) by omega) (show (rmS S (comS Z (wh S pj) (Z.2.1 20 (100 * wh S qj + k))).2) ≤ (rmS S (s_merge S (nI pj) (nI qj)).2) by omega) ?_
                          exact g_iret hC hR dX9_merge_131 ⟨b4, congrArg (fun z => some (Value.int (Prod.fst z))) hE.symm, by rw [hE]; exact hx9, hg3.tr hv3 hg4⟩
                  have hc_p : castF S pj 4 = 0 := by unfold castF isO; rw [hk_p] <;> decide
                  have hc_q : castF S qj 4 = 0 := by unfold castF isO; rw [hk_q] <;> decide
                  have hbf : bthF S pj qj 4 = 0 := by unfold bthF; rw [hc_p, hc_q] <;> decide
                  have hE0 : s_merge S (nI pj) (nI qj) = mgG (wh S pj) (wh S qj) (S.2.1 16 (wh S qj)) 0 0 (thS S) := by
                    unfold s_merge
                    rw [if_pos h4, if_pos h11, hpl_p, hpl_q, hbf, if_neg (show ¬ 0 < 0 by decide)]
                  have hum := (hI.tk hw_q).2.1
                  have hm0 : mo S (thS S) := mo.cg rfl rfl rfl rfl
                  have hr0 := rm_0 (S := S) (S' := thS S) rfl rfl rfl rfl
                  refine g_lv (lv' := [(7, .int (nI 0)), (6, .int (nI (S.2.1 16 (wh S qj)))), (5, .int (nI (S.2.1 16 (wh S pj)))), (4, .ref (b.1 6 (wh S qj))), (3, .ref (b.1 6 (wh S pj))), (0, .ref M)]) [0, 1, 2, 3, 4, 5] rfl ?_
                  refine g_widen (c2 := rmC S (thS S)) (s2 := rmS S (thS S)) (Nat.zero_le _) (Nat.zero_le _) ?_
                  exact lp (S.2.1 16 (wh S qj) + 1) 0 (thS S) b L f (by omega) (by omega) hx0 hM rfl rfl xG.rf (fun _ _ z => z) ⟨hI0, hw_p, hw_q, Nat.le_refl _, show S.1 4 + (S.2.1 16 (wh S qj) - 0) ≤ 39000 by omega⟩ hInv (by rw [hE0]; show mgG _ _ _ 0 (S.2.1 16 (wh S pj) - S.2.1 16 (wh S pj)) _ = _; rw [Nat.sub_self]; rfl) hm0 (Nat.le_refl _) rfl
                · cases h75
            · exfalso; omega
          · have hw_q : wh S qj < S.1 13 := hI.wt hqj (by omega)
            have hb_q : S.2.1 14 (wh S qj) ≠ 0 := by have := ((hI.2.1 _ hqj).2.2.2.2.2 (by omega)).2; omega
            have hp0_q : plcF (thS S) b qj = some (b.1 6 (wh S qj)) := plc_k hqj hk_q (by decide)
            refine g_aald hC 5 rfl (hx0.Mp rfl).1 (hx0.Mp rfl).2 (qj) rfl (show qj < 10 by omega) (by decide) dX9_merge_34 ?_
            refine g_val (w := .ref (b.1 6 (wh S qj))) (congrArg va_rf hp0_q) ?_
            refine g_iconst hC dX9_merge_35 (v := nI 4) (by decide) ?_
            refine g_S (As := [.ref (b.1 6 (wh S qj)), .int (nI 4)]) (st := []) hC 2 dX9_merge_36 gX9_merge_X9_mayBeCast rfl (by decide +kernel) ⟨Nat.le_of_ble_eq_true rfl, Nat.le_of_ble_eq_true rfl⟩ rfl (Nat.le_of_ble_eq_true rfl) ⟨(show 0 + 0 ≤ (rmC S (s_merge S (nI pj) (nI qj)).2) by omega), (show 0 + 0 ≤ (rmS S (s_merge S (nI pj) (nI qj)).2) by omega)⟩ (c2 := 0) (s2 := 0) rfl rfl (x_mayBeCast (some (b.1 6 (wh S qj))) 5 (Or.inr ⟨_, 1, _, rfl, (hx0.K hw_q rfl hb_q), Or.inr (Or.inr (Or.inr (Or.inr ⟨rfl, rfl⟩)))⟩) 4 (by decide)) ?_
            refine g_ifN_ne (a := 1) (tgt := 48) hC dX9_merge_39 (by decide) (by omega) (fun h39 => ?_) (fun h39 => ?_)
            · refine g_aload_n hC dX9_merge_48 rfl 0 rfl (Or.inr ⟨_, rfl⟩) ?_
              refine g_get hC (by decide +kernel) rfl (hx0.M hM).1 (hx0.M hM).2 0 (by decide) (by decide +kernel) (Or.inl rfl) rfl dX9_merge_49 ?_
              refine g_iload_n hC dX9_merge_52 rfl 1 rfl ?_
              refine g_aald hC 5 rfl (hx0.Mp rfl).1 (hx0.Mp rfl).2 (pj) rfl (show pj < 10 by omega) (by decide) dX9_merge_53 ?_
              refine g_val (w := .ref (b.1 6 (wh S pj))) (congrArg va_rf hp0_p) ?_
              refine g_S (As := [.ref (b.1 6 (wh S pj))]) (st := []) hC 1 dX9_merge_54 gX9_merge_X9_asTable rfl (by decide +kernel) ⟨Nat.le_of_ble_eq_true rfl, Nat.le_of_ble_eq_true rfl⟩ rfl (Nat.le_of_ble_eq_true rfl) ⟨(show 0 + 0 ≤ (rmC S (s_merge S (nI pj) (nI qj)).2) by omega), (show 0 + 0 ≤ (rmS S (s_merge S (nI pj) (nI qj)).2) by omega)⟩ (c2 := 0) (s2 := 0) rfl rfl (x_asTable (some (b.1 6 (wh S pj))) 5 (Or.inr ⟨_, 1, _, rfl, (hx0.K hw_p rfl hb_p), Or.inr (Or.inr (Or.inr (Or.inr ⟨rfl, rfl⟩)))⟩)) ?_
              refine g_astore_n (lv' := [(3, .ref (b.1 6 (wh S pj))), (0, .ref M), (1, .int (nI pj)), (2, .int (nI qj))]) hC dX9_merge_57 rfl (by decide) rfl (Or.inr ⟨_, rfl⟩) ?_
              refine g_aload_n hC dX9_merge_58 rfl 1 rfl (Or.inr ⟨_, rfl⟩) ?_
              refine g_get hC (by decide +kernel) rfl (hx0.M hM).1 (hx0.M hM).2 0 (by decide) (by decide +kernel) (Or.inl rfl) rfl dX9_merge_59 ?_
              refine g_iload_n hC dX9_merge_62 rfl 3 rfl ?_
              refine g_aald hC 5 rfl (hx0.Mp rfl).1 (hx0.Mp rfl).2 (qj) rfl (show qj < 10 by omega) (by decide) dX9_merge_63 ?_
              refine g_val (w := .ref (b.1 6 (wh S qj))) (congrArg va_rf hp0_q) ?_
              refine g_S (As := [.ref (b.1 6 (wh S qj))]) (st := []) hC 1 dX9_merge_64 gX9_merge_X9_asTable rfl (by decide +kernel) ⟨Nat.le_of_ble_eq_true rfl, Nat.le_of_ble_eq_true rfl⟩ rfl (Nat.le_of_ble_eq_true rfl) ⟨(show 0 + 0 ≤ (rmC S (s_merge S (nI pj) (nI qj)).2) by omega), (show 0 + 0 ≤ (rmS S (s_merge S (nI pj) (nI qj)).2) by omega)⟩ (c2 := 0) (s2 := 0) rfl rfl (x_asTable (some (b.1 6 (wh S qj))) 5 (Or.inr ⟨_, 1, _, rfl, (hx0.K hw_q rfl hb_q), Or.inr (Or.inr (Or.inr (Or.inr ⟨rfl, rfl⟩)))⟩)) ?_
              refine g_astore (lv' := [(4, .ref (b.1 6 (wh S qj))), (3, .ref (b.1 6 (wh S pj))), (0, .ref M), (1, .int (nI pj)), (2, .int (nI qj))]) hC dX9_merge_67 (by decide) rfl (Or.inr ⟨_, rfl⟩) ?_
              refine g_aload_n hC dX9_merge_69 rfl 1 rfl (Or.inr ⟨_, rfl⟩) ?_
              refine g_ifnull (o := some (b.1 6 (wh S pj))) (tgt := 78) hC dX9_merge_70 (by decide) (fun h70 => ?_) (fun a70 h70 => ?_)
              · cases h70
              · refine g_aload hC dX9_merge_73 0 rfl (Or.inr ⟨_, rfl⟩) ?_
                refine g_ifnonnull (o := some (b.1 6 (wh S qj))) (tgt := 84) hC dX9_merge_75 (by decide) (fun a75 h75 => ?_) (fun h75 => ?_)
                · refine g_aload_n hC dX9_merge_84 rfl 1 rfl (Or.inr ⟨_, rfl⟩) ?_
                  refine g_getN hC (by decide +kernel) rfl (hx0.K hw_p rfl hb_p).1 (hx0.K hw_p rfl hb_p).2 2 (by decide) (gKK_F ("KeptTerms", 176, "KeptTerms$Table", "termCount", "I") (by decide)) (Or.inl rfl) rfl dX9_merge_85 ?_
                  refine g_istore (lv' := [(5, .int (nI (S.2.1 16 (wh S pj)))), (4, .ref (b.1 6 (wh S qj))), (3, .ref (b.1 6 (wh S pj))), (0, .ref M), (1, .int (nI pj)), (2, .int (nI qj))]) hC dX9_merge_88 (by decide) rfl ?_
                  refine g_aload hC dX9_merge_90 1 rfl (Or.inr ⟨_, rfl⟩) ?_
                  refine g_getN hC (by decide +kernel) rfl (hx0.K hw_q rfl hb_q).1 (hx0.K hw_q rfl hb_q).2 2 (by decide) (gKK_F ("KeptTerms", 176, "KeptTerms$Table", "termCount", "I") (by decide)) (Or.inl rfl) rfl dX9_merge_92 ?_
                  refine g_istore (lv' := [(6, .int (nI (S.2.1 16 (wh S qj)))), (5, .int (nI (S.2.1 16 (wh S pj)))), (4, .ref (b.1 6 (wh S qj))), (3, .ref (b.1 6 (wh S pj))), (0, .ref M), (1, .int (nI pj)), (2, .int (nI qj))]) hC dX9_merge_95 (by decide) rfl ?_
                  refine g_iconst hC dX9_merge_97 (v := nI 0) (by decide) ?_
                  refine g_istore (lv' := [(7, .int (nI 0)), (6, .int (nI (S.2.1 16 (wh S qj)))), (5, .int (nI (S.2.1 16 (wh S pj)))), (4, .ref (b.1 6 (wh S qj))), (3, .ref (b.1 6 (wh S pj))), (0, .ref M), (1, .int (nI pj)), (2, .int (nI qj))]) hC dX9_merge_98 (by decide) rfl ?_
                  have lp : ∀ (m : Nat) (k : Nat) (Z : aS) (b3 : xB) (L3 : List Nat) (f3 : Nat → va_E), S.2.1 16 (wh S qj) - k < m → (k ≤ S.2.1 16 (wh S qj)) → (xR cy Z b3 L3 f3) → (b3.1 9 0 = M) → (b3.1 6 (wh S pj) = b.1 6 (wh S pj)) → (b3.1 6 (wh S qj) = b.1 6 (wh S qj)) → (xG S b b3) → (∀ k9 r9, xV S k9 r9 → xV Z k9 r9) → (mI (wh S pj) (wh S qj) (S.2.1 16 (wh S qj)) k Z) → (Inv Z) → (mgG (wh S pj) (wh S qj) (S.2.1 16 (wh S qj) - k) k (Z.2.1 16 (wh S pj) - S.2.1 16 (wh S pj)) Z = s_merge S (nI pj) (nI qj)) → (mo S Z) → (S.2.1 16 (wh S pj) ≤ Z.2.1 16 (wh S pj)) → (Z.2.1 14 = S.2.1 14) → gW X vwCl 8 L3 f3 (rmC S Z) (rmS S Z) 100 [(7, .int (nI k)), (6, .int (nI (S.2.1 16 (wh S qj)))), (5, .int (nI (S.2.1 16 (wh S pj)))), (4, .ref (b.1 6 (wh S qj))), (3, .ref (b.1 6 (wh S pj))), (0, .ref M)] [] := by
                    intro m
                    induction m with
                    | zero => intros; omega
                    | succ m ih =>
                      intro k Z b3 L3 f3 hm9 hk hx3 hM3 hT3 hU3 hg3 hv3 hmi hiz hg hmo h16 h14
                      have hkp3 : Z.2.1 14 (wh S pj) ≠ 0 := by rw [h14]; exact hb_p
                      have hkq3 : Z.2.1 14 (wh S qj) ≠ 0 := by rw [h14]; exact hb_q
                      have htm := (hmi.1.tk hmi.2.1).2.1
                      have hum := (hmi.1.tk hmi.2.2.1).2.1
                      have hNu := hmi.2.2.2.1
                      refine g_iload hC dX9_merge_100 0 rfl ?_
                      refine g_iload hC dX9_merge_102 1 rfl ?_
                      refine g_icmpN_ge (a := k) (b := S.2.1 16 (wh S qj)) (tgt := 138) hC dX9_merge_104 (by decide) (by omega) (by omega) (fun h104 => ?_) (fun h104 => ?_)
                      · refine g_aload_n hC dX9_merge_138 rfl 4 rfl (Or.inr ⟨_, rfl⟩) ?_
                        refine g_getN hC (by decide +kernel) rfl (hx3.K hmi.2.1 hT3 hkp3).1 (hx3.K hmi.2.1 hT3 hkp3).2 2 (by decide) (gKK_F ("KeptTerms", 176, "KeptTerms$Table", "termCount", "I") (by decide)) (Or.inl rfl) rfl dX9_merge_139 ?_
                        refine g_iload hC dX9_merge_142 2 rfl ?_
                        refine g_isubN (a := Z.2.1 16 (wh S pj)) (b := S.2.1 16 (wh S pj)) hC (by omega) dX9_merge_144 ?_
                        have hE : s_merge S (nI pj) (nI qj) = (nI (Z.2.1 16 (wh S pj) - S.2.1 16 (wh S pj)), Z) := by
                          rw [← hg, show S.2.1 16 (wh S qj) - k = 0 by omega]
                          rfl
                        have hm2 : mo Z (s_merge S (nI pj) (nI qj)).2 := by rw [hE]; exact mo.rf
                        have hra2 := rm_add hmo hm2
                        refine g_widen (c2 := (rmC S (s_merge S (nI pj) (nI qj)).2)) (s2 := (rmS S (s_merge S (nI pj) (nI qj)).2)) (show (rmC S Z) ≤ (rmC S (s_merge S (nI pj) (nI qj)).2) by omega) (show (rmS S Z) ≤ (rmS S (s_merge S (nI pj) (nI qj)).2) by omega) ?_
                        exact g_iret hC hR dX9_merge_145 ⟨b3, congrArg (fun z => some (Value.int (Prod.fst z))) hE.symm, by rw [hE]; exact hx3, hg3⟩
                      · have hrZ0 := hmi.1.tt hmi.2.2.1 (show k < Z.2.1 16 (wh S qj) by omega)
                        have hc16 := (aI_com (t := wh S pj) hmi.1 hmi.2.1 hrZ0 (by have := hmi.2.2.2.2; omega)).2.2.2.2
                        refine g_aload_n hC dX9_merge_107 rfl 5 rfl (Or.inr ⟨_, rfl⟩) ?_
                        refine g_aload_n hC dX9_merge_108 rfl 4 rfl (Or.inr ⟨_, rfl⟩) ?_
                        refine g_aload_n hC dX9_merge_109 rfl 4 rfl (Or.inr ⟨_, rfl⟩) ?_
                        refine g_aload hC dX9_merge_110 3 rfl (Or.inr ⟨_, rfl⟩) ?_
                        refine g_getN hC (by decide +kernel) rfl (hx3.K hmi.2.2.1 hU3 hkq3).1 (hx3.K hmi.2.2.1 hU3 hkq3).2 0 (by decide) (gKK_F ("KeptTerms", 179, "KeptTerms$Table", "terms", "[LKeptTerms$Bytes;") (by decide)) (Or.inl rfl) rfl dX9_merge_112 ?_
                        refine g_iload hC dX9_merge_115 0 rfl ?_
                        refine g_aald hC 4 rfl (hx3.Tt hmi.2.2.1 rfl).1 (hx3.Tt hmi.2.2.1 rfl).2 (k) rfl (show k < 100 by omega) (by decide) dX9_merge_117 ?_
                        refine g_val (w := .ref (b3.1 0 (Z.2.1 20 (100 * wh S qj + k)))) (congrArg va_rf (if_pos (show k < Z.2.1 16 (wh S qj) by omega))) ?_
                        have hrZ := hmi.1.tt hmi.2.2.1 (show k < Z.2.1 16 (wh S qj) by omega)
                        have hcf := comA_f (t := wh S pj) hmi.1 hrZ
                        have hstp := hmi.step (show k < S.2.1 16 (wh S qj) by omega)
                        have hmc := mo_com (S := Z) (t := wh S pj) (r := Z.2.1 20 (100 * wh S qj + k))
                        have hrc := rm_com (Z := Z) (t := wh S pj) (r := Z.2.1 20 (100 * wh S qj + k))
                        have hra := rm_add hmo hmc
                        have hm2 : mo (comS Z (wh S pj) (Z.2.1 20 (100 * wh S qj + k))).2 (s_merge S (nI pj) (nI qj)).2 := by
                          rw [← hg, show S.2.1 16 (wh S qj) - k = (S.2.1 16 (wh S qj) - (k + 1)) + 1 by omega, mgG]
                          split
                          · exact mo.rf
                          · exact mo_mg _ _ _ _
                        have hra2 := rm_add (hmo.tr hmc) hm2
                        have htZ : wh S pj < (comA Z (wh S pj) (Z.2.1 20 (100 * wh S qj + k))).2.1 13 := by rw [hcf.1 13 (by decide) (by decide)]; exact hmi.2.1
                        have hkZ : (comA Z (wh S pj) (Z.2.1 20 (100 * wh S qj + k))).2.2.1 14 (wh S pj) ≠ 0 := by rw [hcf.2.1, h14]; exact hb_p
                        refine g_Ux (As := [.ref (b3.1 0 (Z.2.1 20 (100 * wh S qj + k)))]) (st := [.ref (b.1 6 (wh S pj)), .ref M]) hC 1 dX9_merge_118 rfl (hx3.K hmi.2.1 hT3 hkp3).1 (hx3.K hmi.2.1 hT3 hkp3).2 gX9_merge_X7_admit_u163X1 rfl rfl (by decide +kernel) ⟨Nat.le_of_ble_eq_true rfl, Nat.le_of_ble_eq_true rfl⟩ rfl (Nat.le_of_ble_eq_true rfl) ⟨(show (rmC S Z) + (rmC Z (comA Z (wh S pj) (Z.2.1 20 (100 * wh S qj + k))).2) ≤ (rmC S (s_merge S (nI pj) (nI qj)).2) by omega), (show (rmS S Z) + (rmS Z (comA Z (wh S pj) (Z.2.1 20 (100 * wh S qj + k))).2) ≤ (rmS S (s_merge S (nI pj) (nI qj)).2) by omega)⟩ (c2 := ((rmC S Z) + (rmC Z (comA Z (wh S pj) (Z.2.1 20 (100 * wh S qj + k))).2))) (s2 := ((rmS S Z) + (rmS Z (comA Z (wh S pj) (Z.2.1 20 (100 * wh S qj + k))).2))) rfl rfl (x_admit_K (S := Z) hx3 hmi.1 (by have := hmi.2.2.2.2; omega) (h24 Z hiz) _ _ hmi.2.1 hT3 hkp3 _ _ hrZ rfl) (fun v4 L4 f4 hp4 => ?_)
                        obtain ⟨b4, rfl, hx4, hg4⟩ := hp4
                        show gW X vwCl 8 L4 f4 ((rmC S Z) + (rmC Z (comA Z (wh S pj) (Z.2.1 20 (100 * wh S qj + k))).2)) ((rmS S Z) + (rmS Z (comA Z (wh S pj) (Z.2.1 20 (100 * wh S qj + k))).2)) 121 [(7, .int (nI k)), (6, .int (nI (S.2.1 16 (wh S qj)))), (5, .int (nI (S.2.1 16 (wh S pj)))), (4, .ref (b.1 6 (wh S qj))), (3, .ref (b.1 6 (wh S pj))), (0, .ref M)] [.int ((comA Z (wh S pj) (Z.2.1 20 (100 * wh S qj + k))).1), .ref (b.1 6 (wh S pj)), .ref M]
                        refine g_widen (c2 := (rmC S (comS Z (wh S pj) (Z.2.1 20 (100 * wh S qj + k))).2)) (s2 := (rmS S (comS Z (wh S pj) (Z.2.1 20 (100 * wh S qj + k))).2)) (show ((rmC S Z) + (rmC Z (comA Z (wh S pj) (Z.2.1 20 (100 * wh S qj + k))).2)) ≤ (rmC S (comS Z (wh S pj) (Z.2.1 20 (100 * wh S qj + k))).2) by omega) (show ((rmS S Z) + (rmS Z (comA Z (wh S pj) (Z.2.1 20 (100 * wh S qj + k))).2)) ≤ (rmS S (comS Z (wh S pj) (Z.2.1 20 (100 * wh S qj + k))).2) by omega) ?_
                        have hlb := lk_b (S := Z) (r := Z.2.1 20 (100 * wh S qj + k)) (hmi.1.tk hmi.2.1)
                        have hsl := (hmi.1.tk hmi.2.1).sl
                        refine g_Vx (As := [.ref (b.1 6 (wh S pj)), .int ((comA Z (wh S pj) (Z.2.1 20 (100 * wh S qj + k))).1)]) (st := []) hC 2 dX9_merge_121 rfl (hx4.M ((hg4 9 0 (by decide) (by decide) (show 0 < 4 by decide)).trans hM3)).1 (hx4.M ((hg4 9 0 (by decide) (by decide) (show 0 < 4 by decide)).trans hM3)).2 gX9_merge_X9_counted rfl (by decide +kernel) ⟨Nat.le_of_ble_eq_true rfl, Nat.le_of_ble_eq_true rfl⟩ rfl (Nat.le_of_ble_eq_true rfl) ⟨(show (rmC S (comS Z (wh S pj) (Z.2.1 20 (100 * wh S qj + k))).2) + 0 ≤ (rmC S (s_merge S (nI pj) (nI qj)).2) by omega), (show (rmS S (comS Z (wh S pj) (Z.2.1 20 (100 * wh S qj + k))).2) + 0 ≤ (rmS S (s_merge S (nI pj) (nI qj)).2) by omega)⟩ (c2 := (rmC S (comS Z (wh S pj) (Z.2.1 20 (100 * wh S qj + k))).2)) (s2 := (rmS S (comS Z (wh S pj) (Z.2.1 20 (100 * wh S qj + k))).2)) rfl rfl (x_counted_K (S := (comA Z (wh S pj) (Z.2.1 20 (100 * wh S qj + k))).2) hx4 M ((hg4 9 0 (by decide) (by decide) (show 0 < 4 by decide)).trans hM3) _ _ htZ ((hg4 6 (wh S pj) (by decide) (by decide) hmi.2.1).trans hT3) hkZ _ (by rw [hcf.2.2.1]; omega)) (fun v5 L5 f5 hp5 => ?_)
                        obtain ⟨rfl, hx5⟩ := hp5
                        show gW X vwCl 8 L5 f5 (rmC S (comS Z (wh S pj) (Z.2.1 20 (100 * wh S qj + k))).2) (rmS S (comS Z (wh S pj) (Z.2.1 20 (100 * wh S qj + k))).2) 124 [(7, .int (nI k)), (6, .int (nI (S.2.1 16 (wh S qj)))), (5, .int (nI (S.2.1 16 (wh S pj)))), (4, .ref (b.1 6 (wh S qj))), (3, .ref (b.1 6 (wh S pj))), (0, .ref M)] [.int ((comA Z (wh S pj) (Z.2.1 20 (100 * wh S qj + k))).1)]
                        rw [hcf.1 23 (by decide) (by decide), hcf.1 24 (by decide) (by decide), hcf.2.2.1] at hx5
                        have hx9 : xR cy (comS Z (wh S pj) (Z.2.1 20 (100 * wh S qj + k))).2 b4 L5 f5 := by rw [com_A]; exact hx5
                        refine g_bipush hC dX9_merge_124 (v := (-4)) (by decide) ?_
                        refine g_icmp_ne (x := (comA Z (wh S pj) (Z.2.1 20 (100 * wh S qj + k))).1) (y := (-4)) (tgt := 132) hC dX9_merge_126 (by decide) (fun h126 => ?_) (fun h126 => ?_)
                        · refine g_iincN (n := 1) (a := k) (lv' := [(7, .int (nI (k + 1))), (6, .int (nI (S.2.1 16 (wh S qj)))), (5, .int (nI (S.2.1 16 (wh S pj)))), (4, .ref (b.1 6 (wh S qj))), (3, .ref (b.1 6 (wh S pj))), (0, .ref M)]) hC dX9_merge_132 0 rfl (by decide) rfl ?_
                          refine g_goto (tgt := 100) hC dX9_merge_135 (by decide) ?_
                          exact ih (k + 1) (comS Z (wh S pj) (Z.2.1 20 (100 * wh S qj + k))).2 b4 L5 f5 (by omega) (by omega) hx9 ((hg4 9 0 (by decide) (by decide) (show 0 < 4 by decide)).trans hM3) ((hg4 6 (wh S pj) (by decide) (by decide) hmi.2.1).trans hT3) ((hg4 6 (wh S qj) (by decide) (by decide) hmi.2.2.1).trans hU3) (hg3.tr hv3 hg4) (fun k9 r9 hk9 => xV_com hmi.1 hrZ (hv3 k9 r9 hk9)) hstp (hst _ _ _ hiz hrZ) (by rw [← hg, show S.2.1 16 (wh S qj) - k = (S.2.1 16 (wh S qj) - (k + 1)) + 1 by omega, mgG, if_neg (show ¬ (comS Z (wh S pj) (Z.2.1 20 (100 * wh S qj + k))).1 = -4 by rw [com_A]; exact h126)]; congr 1; have := hc16 (wh S pj); omega) (hmo.tr hmc) (by have := hc16 (wh S pj); omega) ((com_14 hmi.1 hrZ).trans h14)
                        · refine g_bipush hC dX9_merge_129 (v := (-4)) (by decide) ?_
                          have hE : s_merge S (nI pj) (nI qj) = (-4, (comS Z (wh S pj) (Z.2.1 20 (100 * wh S qj + k))).2) := by
                            rw [← hg, show S.2.1 16 (wh S qj) - k = (S.2.1 16 (wh S qj) - (k + 1)) + 1 by omega, mgG, if_pos (show (comS Z (wh S pj) (Z.2.1 20 (100 * wh S qj + k))).1 = -4 by rw [com_A]; exact h126)]
                          refine g_widen (c2 := (rmC S (s_merge S (nI pj) (nI qj)).2)) (s2 := (rmS S (s_merge S (nI pj) (nI qj)).2)) (show (rmC S (comS Z (wh S pj) (Z.2.1 20 (100 * wh S qj + k))).2) ≤ (rmC S (s_merge S (nI pj) (nI qj)).2) by omega) (show (rmS S (comS Z (wh S pj) (Z.2.1 20 (100 * wh S qj + k))).2) ≤ (rmS S (s_merge S (nI pj) (nI qj)).2) by omega) ?_
                          exact g_iret hC hR dX9_merge_131 ⟨b4, congrArg (fun z => some (Value.int (Prod.fst z))) hE.symm, by rw [hE]; exact hx9, hg3.tr hv3 hg4⟩
                  have hc_p : castF S pj 4 = 0 := by unfold castF isO; rw [hk_p] <;> decide
                  have hc_q : castF S qj 4 = 0 := by unfold castF isO; rw [hk_q] <;> decide
                  have hbf : bthF S pj qj 4 = 0 := by unfold bthF; rw [hc_p, hc_q] <;> decide
                  have hE0 : s_merge S (nI pj) (nI qj) = mgG (wh S pj) (wh S qj) (S.2.1 16 (wh S qj)) 0 0 (thS S) := by
                    unfold s_merge
                    rw [if_pos h4, if_pos h11, hpl_p, hpl_q, hbf, if_neg (show ¬ 0 < 0 by decide)]
                  have hum := (hI.tk hw_q).2.1
                  have hm0 : mo S (thS S) := mo.cg rfl rfl rfl rfl
                  have hr0 := rm_0 (S := S) (S' := thS S) rfl rfl rfl rfl
                  refine g_lv (lv' := [(7, .int (nI 0)), (6, .int (nI (S.2.1 16 (wh S qj)))), (5, .int (nI (S.2.1 16 (wh S pj)))), (4, .ref (b.1 6 (wh S qj))), (3, .ref (b.1 6 (wh S pj))), (0, .ref M)]) [0, 1, 2, 3, 4, 5] rfl ?_
                  refine g_widen (c2 := rmC S (thS S)) (s2 := rmS S (thS S)) (Nat.zero_le _) (Nat.zero_le _) ?_
                  exact lp (S.2.1 16 (wh S qj) + 1) 0 (thS S) b L f (by omega) (by omega) hx0 hM rfl rfl xG.rf (fun _ _ z => z) ⟨hI0, hw_p, hw_q, Nat.le_refl _, show S.1 4 + (S.2.1 16 (wh S qj) - 0) ≤ 39000 by omega⟩ hInv (by rw [hE0]; show mgG _ _ _ 0 (S.2.1 16 (wh S pj) - S.2.1 16 (wh S pj)) _ = _; rw [Nat.sub_self]; rfl) hm0 (Nat.le_refl _) rfl
                · cases h75
            · exfalso; omega
    · refine g_iconst hC dX9_merge_14 (v := (-1)) (by decide) ?_
      have hE : s_merge S (nI pj) q = ((-1), (thS S)) := by
        unfold s_merge
        rw [if_pos h4, if_neg h11] <;> rfl
      refine g_widen (c2 := (rmC S (s_merge S (nI pj) q).2)) (s2 := (rmS S (s_merge S (nI pj) q).2)) (show 0 ≤ (rmC S (s_merge S (nI pj) q).2) by omega) (show 0 ≤ (rmS S (s_merge S (nI pj) q).2) by omega) ?_
      exact g_iret hC hR dX9_merge_15 ⟨b, congrArg (fun z => some (Value.int (Prod.fst z))) hE.symm, by rw [hE]; exact hx0, xG.rf⟩
end Y6
