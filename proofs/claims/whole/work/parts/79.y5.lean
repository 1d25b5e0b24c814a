/-- nothing is less than it was -/
def mo (S S' : aS) : Prop := S.1 4 ≤ S'.1 4 ∧ capN (S.1 21) ≤ capN (S'.1 21) ∧ szS S (S.1 13) ≤ szS S' (S'.1 13)
theorem mo.rf {S : aS} : mo S S := ⟨Nat.le_refl _, Nat.le_refl _, Nat.le_refl _⟩
theorem mo.tr {S S' S'' : aS} (h1 : mo S S') (h2 : mo S' S'') : mo S S'' := ⟨Nat.le_trans h1.1 h2.1, Nat.le_trans h1.2.1 h2.2.1, Nat.le_trans h1.2.2 h2.2.2⟩
theorem rm_add {S S' S'' : aS} (h1 : mo S S') (h2 : mo S' S'') : rmC S S' + rmC S' S'' = rmC S S'' ∧ rmS S S' + rmS S' S'' = rmS S S'' := by
  obtain ⟨a1, a2, a3⟩ := h1
  obtain ⟨b1, b2, b3⟩ := h2
  unfold rmC rmS
  omega
theorem mo.cg {S S' : aS} (h4 : S'.1 4 = S.1 4) (h21 : S'.1 21 = S.1 21) (h13 : S'.1 13 = S.1 13) (h15 : S'.2.1 15 = S.2.1 15) : mo S S' := by
  have e2 : ∀ n, szS S' n = szS S n := fun n => szS_eq n (fun t _ => by rw [h15])
  unfold mo
  rw [h4, h21, h13, e2]
  exact ⟨Nat.le_refl _, Nat.le_refl _, Nat.le_refl _⟩
theorem capN_mo {n m : Nat} (h : n ≤ m) : capN n ≤ capN m := by
  unfold capN
  (repeat' split) <;> omega
theorem mo_row {S : aS} {t r : Nat} : mo S (rowF S t r).2 := by
  have hs : ∀ Z : aS, Z.2.1 15 = S.2.1 15 → Z.1 13 = S.1 13 → szS S (S.1 13) ≤ szS Z (Z.1 13) := fun Z h h2 => by rw [h2, szS_eq (S := S) (S' := Z) _ (fun t _ => by rw [h])]; exact Nat.le_refl _
  unfold rowF
  by_cases e : S.2.1 14 t = 0
  · rw [if_pos e]; exact ⟨Nat.le_succ _, Nat.le_refl _, hs _ rfl rfl⟩
  · rw [if_neg e]
    unfold keptS
    cases kpG S r (S.1 21) 0 with
    | some w => exact mo.rf
    | none => exact ⟨Nat.le_succ _, capN_mo (Nat.le_succ _), hs _ rfl rfl⟩
theorem mo_grw {S : aS} {t : Nat} : mo S (grwS S t) := by
  unfold grwS
  split
  · have hg := growS_f (S := S) (t := t)
    refine ⟨by rw [hg.1]; exact Nat.le_refl _, by rw [hg.1]; exact Nat.le_refl _, ?_⟩
    rw [hg.1]
    have := szS_up hg.2.2.2 (S.1 13)
    split at this <;> omega
  · exact mo.rf
theorem mo_comA {S : aS} {t r : Nat} : mo S (comA S t r).2 := by
  unfold comA
  by_cases e : 0 < S.2.1 19 (256 * t + (lk S t r).1)
  · rw [if_pos e]; exact mo.cg rfl rfl rfl rfl
  · rw [if_neg e]
    by_cases e2 : S.2.1 16 t = 100
    · rw [if_pos e2]; exact mo.cg rfl rfl rfl rfl
    · rw [if_neg e2]
      exact ((mo.cg (S := S) (S' := lkA S t r) rfl rfl rfl rfl).tr (mo_row (t := t) (r := r))).tr ((mo.cg (S := (rowF (lkA S t r) t r).2) (S' := newTm (rowF (lkA S t r) t r).2 t (rowF (lkA S t r) t r).1 (lk S t r).1) rfl rfl rfl rfl).tr mo_grw)
theorem mo_com {S : aS} {t r : Nat} : mo S (comS S t r).2 := by
  rw [com_A]
  exact mo_comA.tr (mo.cg rfl rfl rfl rfl)
theorem mo_mg {t u : Nat} : ∀ m k n Z, mo Z (mgG t u m k n Z).2
  | 0, _, _, _ => mo.rf
  | m + 1, k, n, Z => by
    rw [mgG]
    split
    · exact mo_com
    · exact mo_com.tr (mo_mg m _ _ _)
theorem rm_com {Z : aS} {t r : Nat} : rmC Z (comA Z t r).2 = rmC Z (comS Z t r).2 ∧ rmS Z (comA Z t r).2 = rmS Z (comS Z t r).2 := by
  rw [com_A]
  exact rm_cg rfl rfl rfl rfl rfl rfl rfl rfl
/-- what holds along a merge -/
def mI (t u N k : Nat) (Z : aS) : Prop := aI Z ∧ t < Z.1 13 ∧ u < Z.1 13 ∧ N ≤ Z.2.1 16 u ∧ Z.1 4 + (N - k) ≤ 39000
theorem com_14 {S : aS} {t r : Nat} (hI : aI S) (hr : r < S.1 4) : (comS S t r).2.2.1 14 = S.2.1 14 := by
  rw [com_A]
  exact (comA_f hI hr).2.1
theorem mI.step {t u N k : Nat} {Z : aS} (h : mI t u N k Z) (hk : k < N) : mI t u N (k + 1) (comS Z t (Z.2.1 20 (100 * u + k))).2 := by
  obtain ⟨h1, h2, h3, h4, h5⟩ := h
  have hr := h1.tt h3 (show k < Z.2.1 16 u by omega)
  obtain ⟨a1, a2, a3, a4, a5⟩ := aI_com h1 h2 hr (by omega)
  have := a5 u
  exact ⟨a1, by omega, by omega, by omega, by omega⟩
section Y5
variable {l : Launch} {D : va_G} {cy adK adV : Nat → Nat} {L : List Nat} {f : Nat → va_E} {Inv : aS → Prop}
set_option maxRecDepth 20000 in
set_option maxHeartbeats 4000000 in
theorem y_add {S : aS} {b : xB} (hx : xR cy S b L f) (hI : aI S) (M : Nat) (hM : b.1 9 0 = M) (hb : S.1 4 + 1 ≤ 39000) (h24 : S.1 21 < 1024) (p q : Int32) : gCt l D vwCl (gKK D cy adK adV) yX9_add wsX9_add { frames := 8, cells := (rmC S (s_add S p q).2), slots := (rmS S (s_add S p q).2), locals := 167 } [.ref M, .int p, .int q] L f (xP cy S b (s_add S p q).2 (fun _ => some (.int (s_add S p q).1))) := by
  refine gCt.of gKK_ok (by decide) rfl rfl (fun X hC hR hnm => ?_)
  have hC : gC X l _ D vwCl (cyT cy) (gKK D cy adK adV) cX9_add 6 wsX9_add RX9 := hC
  have hx0 := hx.th0
  have hI0 := hI.th
  show gW X vwCl 6 L f 0 0 0 [(0, .ref M), (1, .int p), (2, .int q)] []
  refine g_iload_n hC dX9_add_0 rfl 1 rfl ?_
  refine g_S (As := [.int p]) (st := []) hC 1 dX9_add_1 gX9_add_X9_isPlace rfl (by decide +kernel) ⟨Nat.le_of_ble_eq_true rfl, Nat.le_of_ble_eq_true rfl⟩ rfl (Nat.le_of_ble_eq_true rfl) ⟨(show 0 + 0 ≤ (rmC S (s_add S p q).2) by omega), (show 0 + 0 ≤ (rmS S (s_add S p q).2) by omega)⟩ (c2 := 0) (s2 := 0) rfl rfl (x_isPlace _) ?_
  refine g_ifB_eq (P := isP p) (tgt := 14) hC dX9_add_4 (by decide) (fun h4 => ?_) (fun h4 => ?_)
  · refine g_iconst hC dX9_add_14 (v := (-1)) (by decide) ?_
    have hE : s_add S p q = ((-1), (thS S)) := by
      unfold s_add
      rw [if_neg h4] <;> rfl
    refine g_widen (c2 := (rmC S (s_add S p q).2)) (s2 := (rmS S (s_add S p q).2)) (show 0 ≤ (rmC S (s_add S p q).2) by omega) (show 0 ≤ (rmS S (s_add S p q).2) by omega) ?_
    exact g_iret hC hR dX9_add_15 ⟨b, congrArg (fun z => some (Value.int (Prod.fst z))) hE.symm, by rw [hE]; exact hx0, xG.rf⟩
  · obtain ⟨pj, hpj, rfl⟩ := isP_j h4
    have hpl_p : pl (nI pj) = pj := nI_clamp (by omega)
    refine g_iload_n hC dX9_add_7 rfl 2 rfl ?_
    refine g_S (As := [.int q]) (st := []) hC 1 dX9_add_8 gX9_add_X9_isPlace rfl (by decide +kernel) ⟨Nat.le_of_ble_eq_true rfl, Nat.le_of_ble_eq_true rfl⟩ rfl (Nat.le_of_ble_eq_true rfl) ⟨(show 0 + 0 ≤ (rmC S (s_add S (nI pj) q).2) by omega), (show 0 + 0 ≤ (rmS S (s_add S (nI pj) q).2) by omega)⟩ (c2 := 0) (s2 := 0) rfl rfl (x_isPlace _) ?_
    refine g_ifB_ne (P := isP q) (tgt := 16) hC dX9_add_11 (by decide) (fun h11 => ?_) (fun h11 => ?_)
    · obtain ⟨qj, hqj, rfl⟩ := isP_j h11
      have hpl_q : pl (nI qj) = qj := nI_clamp (by omega)
      refine g_aload_n hC dX9_add_16 rfl 0 rfl (Or.inr ⟨_, rfl⟩) ?_
      refine g_get hC (by decide +kernel) rfl (hx0.M hM).1 (hx0.M hM).2 0 (by decide) (by decide +kernel) (Or.inl rfl) rfl dX9_add_17 ?_
      refine g_iload_n hC dX9_add_20 rfl 1 rfl ?_
      have h5_p := hI.k5 hpj
      rcases (show kd S pj = 0 ∨ kd S pj = 1 ∨ kd S pj = 2 ∨ kd S pj = 3 ∨ kd S pj = 4 ∨ kd S pj = 5 by omega) with hk_p | hk_p | hk_p | hk_p | hk_p | hk_p
      · have hp0_p : plcF (thS S) b pj = none := plc_0 hpj hk_p
        refine g_aald hC 5 rfl (hx0.Mp rfl).1 (hx0.Mp rfl).2 (pj) rfl (show pj < 10 by omega) (by decide) dX9_add_21 ?_
        refine g_val (w := .null) (congrArg va_rf hp0_p) ?_
        refine g_aload_n hC dX9_add_22 rfl 0 rfl (Or.inr ⟨_, rfl⟩) ?_
        refine g_get hC (by decide +kernel) rfl (hx0.M hM).1 (hx0.M hM).2 0 (by decide) (by decide +kernel) (Or.inl rfl) rfl dX9_add_23 ?_
        refine g_iload_n hC dX9_add_26 rfl 2 rfl ?_
        have h5_q := hI.k5 hqj
        rcases (show kd S qj = 0 ∨ kd S qj = 1 ∨ kd S qj = 2 ∨ kd S qj = 3 ∨ kd S qj = 4 ∨ kd S qj = 5 by omega) with hk_q | hk_q | hk_q | hk_q | hk_q | hk_q
        · have hp0_q : plcF (thS S) b qj = none := plc_0 hqj hk_q
          refine g_aald hC 5 rfl (hx0.Mp rfl).1 (hx0.Mp rfl).2 (qj) rfl (show qj < 10 by omega) (by decide) dX9_add_27 ?_
          refine g_val (w := .null) (congrArg va_rf hp0_q) ?_
          refine g_S (As := [.null, .null]) (st := []) hC 2 dX9_add_28 gX9_add_X9_lookFault rfl (by decide +kernel) ⟨Nat.le_of_ble_eq_true rfl, Nat.le_of_ble_eq_true rfl⟩ rfl (Nat.le_of_ble_eq_true rfl) ⟨(show 0 + 0 ≤ (rmC S (s_add S (nI pj) (nI qj)).2) by omega), (show 0 + 0 ≤ (rmS S (s_add S (nI pj) (nI qj)).2) by omega)⟩ (c2 := 0) (s2 := 0) rfl rfl (x_lookFault none none 0 0 (Or.inl ⟨rfl, rfl⟩) (Or.inl ⟨rfl, rfl⟩)) ?_
          refine g_istore_n (lv' := [(3, .int (nI 1)), (0, .ref M), (1, .int (nI pj)), (2, .int (nI qj))]) hC dX9_add_31 rfl (by decide) rfl ?_
          refine g_aload_n hC dX9_add_32 rfl 1 rfl (Or.inr ⟨_, rfl⟩) ?_
          refine g_get hC (by decide +kernel) rfl (hx0.M hM).1 (hx0.M hM).2 0 (by decide) (by decide +kernel) (Or.inl rfl) rfl dX9_add_33 ?_
          refine g_iload_n hC dX9_add_36 rfl 2 rfl ?_
          refine g_aald hC 5 rfl (hx0.Mp rfl).1 (hx0.Mp rfl).2 (pj) rfl (show pj < 10 by omega) (by decide) dX9_add_37 ?_
          refine g_val (w := .null) (congrArg va_rf hp0_p) ?_
          refine g_S (As := [.null]) (st := []) hC 1 dX9_add_38 gX9_add_X9_asTable rfl (by decide +kernel) ⟨Nat.le_of_ble_eq_true rfl, Nat.le_of_ble_eq_true rfl⟩ rfl (Nat.le_of_ble_eq_true rfl) ⟨(show 0 + 0 ≤ (rmC S (s_add S (nI pj) (nI qj)).2) by omega), (show 0 + 0 ≤ (rmS S (s_add S (nI pj) (nI qj)).2) by omega)⟩ (c2 := 0) (s2 := 0) rfl rfl (x_asTable none 0 (Or.inl ⟨rfl, rfl⟩)) ?_
          refine g_astore (lv' := [(4, .null), (3, .int (nI 1)), (0, .ref M), (1, .int (nI pj)), (2, .int (nI qj))]) hC dX9_add_41 (by decide) rfl (Or.inl rfl) ?_
          refine g_aload_n hC dX9_add_43 rfl 2 rfl (Or.inr ⟨_, rfl⟩) ?_
          refine g_get hC (by decide +kernel) rfl (hx0.M hM).1 (hx0.M hM).2 0 (by decide) (by decide +kernel) (Or.inl rfl) rfl dX9_add_44 ?_
          refine g_iload_n hC dX9_add_47 rfl 4 rfl ?_
          refine g_aald hC 5 rfl (hx0.Mp rfl).1 (hx0.Mp rfl).2 (qj) rfl (show qj < 10 by omega) (by decide) dX9_add_48 ?_
          refine g_val (w := .null) (congrArg va_rf hp0_q) ?_
          refine g_S (As := [.null]) (st := []) hC 1 dX9_add_49 gX9_add_X9_asBytes rfl (by decide +kernel) ⟨Nat.le_of_ble_eq_true rfl, Nat.le_of_ble_eq_true rfl⟩ rfl (Nat.le_of_ble_eq_true rfl) ⟨(show 0 + 0 ≤ (rmC S (s_add S (nI pj) (nI qj)).2) by omega), (show 0 + 0 ≤ (rmS S (s_add S (nI pj) (nI qj)).2) by omega)⟩ (c2 := 0) (s2 := 0) rfl rfl (x_asBytes none 0 (Or.inl ⟨rfl, rfl⟩)) ?_
          refine g_astore (lv' := [(5, .null), (4, .null), (3, .int (nI 1)), (0, .ref M), (1, .int (nI pj)), (2, .int (nI qj))]) hC dX9_add_52 (by decide) rfl (Or.inl rfl) ?_
          refine g_iload_n hC dX9_add_54 rfl 2 rfl ?_
          refine g_ifN_ne (a := 1) (tgt := 68) hC dX9_add_55 (by decide) (by omega) (fun h55 => ?_) (fun h55 => ?_)
          · refine g_aload_n hC dX9_add_68 rfl 3 rfl (Or.inr ⟨_, rfl⟩) ?_
            refine g_iload_n hC dX9_add_69 rfl 2 rfl ?_
            refine g_Vx (As := [.int (nI 1)]) (st := []) hC 1 dX9_add_70 rfl (hx0.M hM).1 (hx0.M hM).2 gX9_add_X9_failed rfl (by decide +kernel) ⟨Nat.le_of_ble_eq_true rfl, Nat.le_of_ble_eq_true rfl⟩ rfl (Nat.le_of_ble_eq_true rfl) ⟨(show 0 + 0 ≤ (rmC S (s_add S (nI pj) (nI qj)).2) by omega), (show 0 + 0 ≤ (rmS S (s_add S (nI pj) (nI qj)).2) by omega)⟩ (c2 := 0) (s2 := 0) rfl rfl (x_failed hx0 M hM 1) (fun v1 L1 f1 hp1 => ?_)
            obtain ⟨rfl, hx1⟩ := hp1
            show gW X vwCl 6 L1 f1 0 0 73 [(5, .null), (4, .null), (3, .int (nI 1)), (0, .ref M), (1, .int (nI pj)), (2, .int (nI qj))] [.int (fA 1)]
            have hc_p : castF S pj 4 = 1 := by unfold castF isO; rw [hk_p] <;> decide
            have hc_q : castF S qj 1 = 1 := by unfold castF isO; rw [hk_q] <;> decide
            have hbf : bthF S pj qj 1 = 1 := by unfold bthF; rw [hc_p, hc_q] <;> decide
            have hE : s_add S (nI pj) (nI qj) = (fA 1, (aSc (thS S) 1 1)) := by
              unfold s_add
              rw [if_pos h4, if_pos h11, hpl_p, hpl_q, hbf, if_pos (show 0 < 1 by decide)] <;> rfl
            refine g_widen (c2 := (rmC S (s_add S (nI pj) (nI qj)).2)) (s2 := (rmS S (s_add S (nI pj) (nI qj)).2)) (show 0 ≤ (rmC S (s_add S (nI pj) (nI qj)).2) by omega) (show 0 ≤ (rmS S (s_add S (nI pj) (nI qj)).2) by omega) ?_
            exact g_iret hC hR dX9_add_73 ⟨b, congrArg (fun z => some (Value.int (Prod.fst z))) hE.symm, by rw [hE]; exact hx1, xG.rf⟩
          · exfalso; omega
        · have hw_q : wh S qj < S.1 4 := hI.wl hqj hk_q
          have hp0_q : plcF (thS S) b qj = some (b.1 0 (wh S qj)) := plc_k hqj hk_q (by decide)
          refine g_aald hC 5 rfl (hx0.Mp rfl).1 (hx0.Mp rfl).2 (qj) rfl (show qj < 10 by omega) (by decide) dX9_add_27 ?_
          refine g_val (w := .ref (b.1 0 (wh S qj))) (congrArg va_rf hp0_q) ?_
          refine g_S (As := [.null, .ref (b.1 0 (wh S qj))]) (st := []) hC 2 dX9_add_28 gX9_add_X9_lookFault rfl (by decide +kernel) ⟨Nat.le_of_ble_eq_true rfl, Nat.le_of_ble_eq_true rfl⟩ rfl (Nat.le_of_ble_eq_true rfl) ⟨(show 0 + 0 ≤ (rmC S (s_add S (nI pj) (nI qj)).2) by omega), (show 0 + 0 ≤ (rmS S (s_add S (nI pj) (nI qj)).2) by omega)⟩ (c2 := 0) (s2 := 0) rfl rfl (x_lookFault none (some (b.1 0 (wh S qj))) 0 1 (Or.inl ⟨rfl, rfl⟩) (Or.inr ⟨_, 0, _, rfl, (hx0.B hw_q rfl), Or.inl ⟨rfl, rfl⟩⟩)) ?_
          refine g_istore_n (lv' := [(3, .int (nI 1)), (0, .ref M), (1, .int (nI pj)), (2, .int (nI qj))]) hC dX9_add_31 rfl (by decide) rfl ?_
          refine g_aload_n hC dX9_add_32 rfl 1 rfl (Or.inr ⟨_, rfl⟩) ?_
          refine g_get hC (by decide +kernel) rfl (hx0.M hM).1 (hx0.M hM).2 0 (by decide) (by decide +kernel) (Or.inl rfl) rfl dX9_add_33 ?_
          refine g_iload_n hC dX9_add_36 rfl 2 rfl ?_
          refine g_aald hC 5 rfl (hx0.Mp rfl).1 (hx0.Mp rfl).2 (pj) rfl (show pj < 10 by omega) (by decide) dX9_add_37 ?_
          refine g_val (w := .null) (congrArg va_rf hp0_p) ?_
          refine g_S (As := [.null]) (st := []) hC 1 dX9_add_38 gX9_add_X9_asTable rfl (by decide +kernel) ⟨Nat.le_of_ble_eq_true rfl, Nat.le_of_ble_eq_true rfl⟩ rfl (Nat.le_of_ble_eq_true rfl) ⟨(show 0 + 0 ≤ (rmC S (s_add S (nI pj) (nI qj)).2) by omega), (show 0 + 0 ≤ (rmS S (s_add S (nI pj) (nI qj)).2) by omega)⟩ (c2 := 0) (s2 := 0) rfl rfl (x_asTable none 0 (Or.inl ⟨rfl, rfl⟩)) ?_
          refine g_astore (lv' := [(4, .null), (3, .int (nI 1)), (0, .ref M), (1, .int (nI pj)), (2, .int (nI qj))]) hC dX9_add_41 (by decide) rfl (Or.inl rfl) ?_
          refine g_aload_n hC dX9_add_43 rfl 2 rfl (Or.inr ⟨_, rfl⟩) ?_
          refine g_get hC (by decide +kernel) rfl (hx0.M hM).1 (hx0.M hM).2 0 (by decide) (by decide +kernel) (Or.inl rfl) rfl dX9_add_44 ?_
          refine g_iload_n hC dX9_add_47 rfl 4 rfl ?_
          refine g_aald hC 5 rfl (hx0.Mp rfl).1 (hx0.Mp rfl).2 (qj) rfl (show qj < 10 by omega) (by decide) dX9_add_48 ?_
          refine g_val (w := .ref (b.1 0 (wh S qj))) (congrArg va_rf hp0_q) ?_
          refine g_S (As := [.ref (b.1 0 (wh S qj))]) (st := []) hC 1 dX9_add_49 gX9_add_X9_asBytes rfl (by decide +kernel) ⟨Nat.le_of_ble_eq_true rfl, Nat.le_of_ble_eq_true rfl⟩ rfl (Nat.le_of_ble_eq_true rfl) ⟨(show 0 + 0 ≤ (rmC S (s_add S (nI pj) (nI qj)).2) by omega), (show 0 + 0 ≤ (rmS S (s_add S (nI pj) (nI qj)).2) by omega)⟩ (c2 := 0) (s2 := 0) rfl rfl (x_asBytes (some (b.1 0 (wh S qj))) 1 (Or.inr ⟨_, 0, _, rfl, (hx0.B hw_q rfl), Or.inl ⟨rfl, rfl⟩⟩)) ?_
          refine g_astore (lv' := [(5, .ref (b.1 0 (wh S qj))), (4, .null), (3, .int (nI 1)), (0, .ref M), (1, .int (nI pj)), (2, .int (nI qj))]) hC dX9_add_52 (by decide) rfl (Or.inr ⟨_, rfl⟩) ?_
          refine g_iload_n hC dX9_add_54 rfl 2 rfl ?_
          refine g_ifN_ne (a := 1) (tgt := 68) hC dX9_add_55 (by decide) (by omega) (fun h55 => ?_) (fun h55 => ?_)
          · refine g_aload_n hC dX9_add_68 rfl 3 rfl (Or.inr ⟨_, rfl⟩) ?_
            refine g_iload_n hC dX9_add_69 rfl 2 rfl ?_
            refine g_Vx (As := [.int (nI 1)]) (st := []) hC 1 dX9_add_70 rfl (hx0.M hM).1 (hx0.M hM).2 gX9_add_X9_failed rfl (by decide +kernel) ⟨Nat.le_of_ble_eq_true rfl, Nat.le_of_ble_eq_true rfl⟩ rfl (Nat.le_of_ble_eq_true rfl) ⟨(show 0 + 0 ≤ (rmC S (s_add S (nI pj) (nI qj)).2) by omega), (show 0 + 0 ≤ (rmS S (s_add S (nI pj) (nI qj)).2) by omega)⟩ (c2 := 0) (s2 := 0) rfl rfl (x_failed hx0 M hM 1) (fun v1 L1 f1 hp1 => ?_)
            obtain ⟨rfl, hx1⟩ := hp1
            show gW X vwCl 6 L1 f1 0 0 73 [(5, .ref (b.1 0 (wh S qj))), (4, .null), (3, .int (nI 1)), (0, .ref M), (1, .int (nI pj)), (2, .int (nI qj))] [.int (fA 1)]
            have hc_p : castF S pj 4 = 1 := by unfold castF isO; rw [hk_p] <;> decide
            have hc_q : castF S qj 1 = 0 := by unfold castF isO; rw [hk_q] <;> decide
            have hbf : bthF S pj qj 1 = 1 := by unfold bthF; rw [hc_p, hc_q] <;> decide
            have hE : s_add S (nI pj) (nI qj) = (fA 1, (aSc (thS S) 1 1)) := by
              unfold s_add
              rw [if_pos h4, if_pos h11, hpl_p, hpl_q, hbf, if_pos (show 0 < 1 by decide)] <;> rfl
            refine g_widen (c2 := (rmC S (s_add S (nI pj) (nI qj)).2)) (s2 := (rmS S (s_add S (nI pj) (nI qj)).2)) (show 0 ≤ (rmC S (s_add S (nI pj) (nI qj)).2) by omega) (show 0 ≤ (rmS S (s_add S (nI pj) (nI qj)).2) by omega) ?_
            exact g_iret hC hR dX9_add_73 ⟨b, congrArg (fun z => some (Value.int (Prod.fst z))) hE.symm, by rw [hE]; exact hx1, xG.rf⟩
          · exfalso; omega
        · have hw_q : wh S qj < S.1 7 := hI.ws hqj hk_q
          have hp0_q : plcF (thS S) b qj = some (b.1 2 (wh S qj)) := plc_k hqj hk_q (by decide)
          refine g_aald hC 5 rfl (hx0.Mp rfl).1 (hx0.Mp rfl).2 (qj) rfl (show qj < 10 by omega) (by decide) dX9_add_27 ?_
          refine g_val (w := .ref (b.1 2 (wh S qj))) (congrArg va_rf hp0_q) ?_
          refine g_S (As := [.null, .ref (b.1 2 (wh S qj))]) (st := []) hC 2 dX9_add_28 gX9_add_X9_lookFault rfl (by decide +kernel) ⟨Nat.le_of_ble_eq_true rfl, Nat.le_of_ble_eq_true rfl⟩ rfl (Nat.le_of_ble_eq_true rfl) ⟨(show 0 + 0 ≤ (rmC S (s_add S (nI pj) (nI qj)).2) by omega), (show 0 + 0 ≤ (rmS S (s_add S (nI pj) (nI qj)).2) by omega)⟩ (c2 := 0) (s2 := 0) rfl rfl (x_lookFault none (some (b.1 2 (wh S qj))) 0 2 (Or.inl ⟨rfl, rfl⟩) (Or.inr ⟨_, 4, _, rfl, (hx0.G hw_q rfl), Or.inr (Or.inl ⟨rfl, rfl⟩)⟩)) ?_
          refine g_istore_n (lv' := [(3, .int (nI 2)), (0, .ref M), (1, .int (nI pj)), (2, .int (nI qj))]) hC dX9_add_31 rfl (by decide) rfl ?_
          refine g_aload_n hC dX9_add_32 rfl 1 rfl (Or.inr ⟨_, rfl⟩) ?_
          refine g_get hC (by decide +kernel) rfl (hx0.M hM).1 (hx0.M hM).2 0 (by decide) (by decide +kernel) (Or.inl rfl) rfl dX9_add_33 ?_
          refine g_iload_n hC dX9_add_36 rfl 2 rfl ?_
          refine g_aald hC 5 rfl (hx0.Mp rfl).1 (hx0.Mp rfl).2 (pj) rfl (show pj < 10 by omega) (by decide) dX9_add_37 ?_
          refine g_val (w := .null) (congrArg va_rf hp0_p) ?_
          refine g_S (As := [.null]) (st := []) hC 1 dX9_add_38 gX9_add_X9_asTable rfl (by decide +kernel) ⟨Nat.le_of_ble_eq_true rfl, Nat.le_of_ble_eq_true rfl⟩ rfl (Nat.le_of_ble_eq_true rfl) ⟨(show 0 + 0 ≤ (rmC S (s_add S (nI pj) (nI qj)).2) by omega), (show 0 + 0 ≤ (rmS S (s_add S (nI pj) (nI qj)).2) by omega)⟩ (c2 := 0) (s2 := 0) rfl rfl (x_asTable none 0 (Or.inl ⟨rfl, rfl⟩)) ?_
          refine g_astore (lv' := [(4, .null), (3, .int (nI 2)), (0, .ref M), (1, .int (nI pj)), (2, .int (nI qj))]) hC dX9_add_41 (by decide) rfl (Or.inl rfl) ?_
          refine g_aload_n hC dX9_add_43 rfl 2 rfl (Or.inr ⟨_, rfl⟩) ?_
          refine g_get hC (by decide +kernel) rfl (hx0.M hM).1 (hx0.M hM).2 0 (by decide) (by decide +kernel) (Or.inl rfl) rfl dX9_add_44 ?_
          refine g_iload_n hC dX9_add_47 rfl 4 rfl ?_
          refine g_aald hC 5 rfl (hx0.Mp rfl).1 (hx0.Mp rfl).2 (qj) rfl (show qj < 10 by omega) (by decide) dX9_add_48 ?_
          refine g_val (w := .ref (b.1 2 (wh S qj))) (congrArg va_rf hp0_q) ?_
          refine g_S (As := [.ref (b.1 2 (wh S qj))]) (st := []) hC 1 dX9_add_49 gX9_add_X9_asBytes rfl (by decide +kernel) ⟨Nat.le_of_ble_eq_true rfl, Nat.le_of_ble_eq_true rfl⟩ rfl (Nat.le_of_ble_eq_true rfl) ⟨(show 0 + 0 ≤ (rmC S (s_add S (nI pj) (nI qj)).2) by omega), (show 0 + 0 ≤ (rmS S (s_add S (nI pj) (nI qj)).2) by omega)⟩ (c2 := 0) (s2 := 0) rfl rfl (x_asBytes (some (b.1 2 (wh S qj))) 2 (Or.inr ⟨_, 4, _, rfl, (hx0.G hw_q rfl), Or.inr (Or.inl ⟨rfl, rfl⟩)⟩)) ?_
          refine g_astore (lv' := [(5, .null), (4, .null), (3, .int (nI 2)), (0, .ref M), (1, .int (nI pj)), (2, .int (nI qj))]) hC dX9_add_52 (by decide) rfl (Or.inl rfl) ?_
          refine g_iload_n hC dX9_add_54 rfl 2 rfl ?_
          refine g_ifN_ne (a := 2) (tgt := 68) hC dX9_add_55 (by decide) (by omega) (fun h55 => ?_) (fun h55 => ?_)
          · refine g_aload_n hC dX9_add_68 rfl 3 rfl (Or.inr ⟨_, rfl⟩) ?_
            refine g_iload_n hC dX9_add_69 rfl 2 rfl ?_
            refine g_Vx (As := [.int (nI 2)]) (st := []) hC 1 dX9_add_70 rfl (hx0.M hM).1 (hx0.M hM).2 gX9_add_X9_failed rfl (by decide +kernel) ⟨Nat.le_of_ble_eq_true rfl, Nat.le_of_ble_eq_true rfl⟩ rfl (Nat.le_of_ble_eq_true rfl) ⟨(show 0 + 0 ≤ (rmC S (s_add S (nI pj) (nI qj)).2) by omega), (show 0 + 0 ≤ (rmS S (s_add S (nI pj) (nI qj)).2) by omega)⟩ (c2 := 0) (s2 := 0) rfl rfl (x_failed hx0 M hM 2) (fun v1 L1 f1 hp1 => ?_)
            obtain ⟨rfl, hx1⟩ := hp1
            show gW X vwCl 6 L1 f1 0 0 73 [(5, .null), (4, .null), (3, .int (nI 2)), (0, .ref M), (1, .int (nI pj)), (2, .int (nI qj))] [.int (fA 2)]
            have hc_p : castF S pj 4 = 1 := by unfold castF isO; rw [hk_p] <;> decide
            have hc_q : castF S qj 1 = 2 := by unfold castF isO; rw [hk_q] <;> decide
            have hbf : bthF S pj qj 1 = 2 := by unfold bthF; rw [hc_p, hc_q] <;> decide
            have hE : s_add S (nI pj) (nI qj) = (fA 2, (aSc (thS S) 1 2)) := by
              unfold s_add
              rw [if_pos h4, if_pos h11, hpl_p, hpl_q, hbf, if_pos (show 0 < 2 by decide)] <;> rfl
            refine g_widen (c2 := (rmC S (s_add S (nI pj) (nI qj)).2)) (s2 := (rmS S (s_add S (nI pj) (nI qj)).2)) (show 0 ≤ (rmC S (s_add S (nI pj) (nI qj)).2) by omega) (show 0 ≤ (rmS S (s_add S (nI pj) (nI qj)).2) by omega) ?_
            exact g_iret hC hR dX9_add_73 ⟨b, congrArg (fun z => some (Value.int (Prod.fst z))) hE.symm, by rw [hE]; exact hx1, xG.rf⟩
          · exfalso; omega
        · have hw_q : wh S qj < S.1 10 := hI.wr hqj hk_q
          have hp0_q : plcF (thS S) b qj = some (b.1 4 (wh S qj)) := plc_k hqj hk_q (by decide)
          refine g_aald hC 5 rfl (hx0.Mp rfl).1 (hx0.Mp rfl).2 (qj) rfl (show qj < 10 by omega) (by decide) dX9_add_27 ?_
          refine g_val (w := .ref (b.1 4 (wh S qj))) (congrArg va_rf hp0_q) ?_
          refine g_S (As := [.null, .ref (b.1 4 (wh S qj))]) (st := []) hC 2 dX9_add_28 gX9_add_X9_lookFault rfl (by decide +kernel) ⟨Nat.le_of_ble_eq_true rfl, Nat.le_of_ble_eq_true rfl⟩ rfl (Nat.le_of_ble_eq_true rfl) ⟨(show 0 + 0 ≤ (rmC S (s_add S (nI pj) (nI qj)).2) by omega), (show 0 + 0 ≤ (rmS S (s_add S (nI pj) (nI qj)).2) by omega)⟩ (c2 := 0) (s2 := 0) rfl rfl (x_lookFault none (some (b.1 4 (wh S qj))) 0 3 (Or.inl ⟨rfl, rfl⟩) (Or.inr ⟨_, 3, _, rfl, (hx0.W hw_q rfl), Or.inr (Or.inr (Or.inl ⟨rfl, rfl⟩))⟩)) ?_
          refine g_istore_n (lv' := [(3, .int (nI 2)), (0, .ref M), (1, .int (nI pj)), (2, .int (nI qj))]) hC dX9_add_31 rfl (by decide) rfl ?_
          refine g_aload_n hC dX9_add_32 rfl 1 rfl (Or.inr ⟨_, rfl⟩) ?_
          refine g_get hC (by decide +kernel) rfl (hx0.M hM).1 (hx0.M hM).2 0 (by decide) (by decide +kernel) (Or.inl rfl) rfl dX9_add_33 ?_
          refine g_iload_n hC dX9_add_36 rfl 2 rfl ?_
          refine g_aald hC 5 rfl (hx0.Mp rfl).1 (hx0.Mp rfl).2 (pj) rfl (show pj < 10 by omega) (by decide) dX9_add_37 ?_
          refine g_val (w := .null) (congrArg va_rf hp0_p) ?_
          refine g_S (As := [.null]) (st := []) hC 1 dX9_add_38 gX9_add_X9_asTable rfl (by decide +kernel) ⟨Nat.le_of_ble_eq_true rfl, Nat.le_of_ble_eq_true rfl⟩ rfl (Nat.le_of_ble_eq_true rfl) ⟨(show 0 + 0 ≤ (rmC S (s_add S (nI pj) (nI qj)).2) by omega), (show 0 + 0 ≤ (rmS S (s_add S (nI pj) (nI qj)).2) by omega)⟩ (c2 := 0) (s2 := 0) rfl rfl (x_asTable none 0 (Or.inl ⟨rfl, rfl⟩)) ?_
          refine g_astore (lv' := [(4, .null), (3, .int (nI 2)), (0, .ref M), (1, .int (nI pj)), (2, .int (nI qj))]) hC dX9_add_41 (by decide) rfl (Or.inl rfl) ?_
          refine g_aload_n hC dX9_add_43 rfl 2 rfl (Or.inr ⟨_, rfl⟩) ?_
          refine g_get hC (by decide +kernel) rfl (hx0.M hM).1 (hx0.M hM).2 0 (by decide) (by decide +kernel) (Or.inl rfl) rfl dX9_add_44 ?_
          refine g_iload_n hC dX9_add_47 rfl 4 rfl ?_
          refine g_aald hC 5 rfl (hx0.Mp rfl).1 (hx0.Mp rfl).2 (qj) rfl (show qj < 10 by omega) (by decide) dX9_add_48 ?_
          refine g_val (w := .ref (b.1 4 (wh S qj))) (congrArg va_rf hp0_q) ?_
          refine g_S (As := [.ref (b.1 4 (wh S qj))]) (st := []) hC 1 dX9_add_49 gX9_add_X9_asBytes rfl (by decide +kernel) ⟨Nat.le_of_ble_eq_true rfl, Nat.le_of_ble_eq_true rfl⟩ rfl (Nat.le_of_ble_eq_true rfl) ⟨(show 0 + 0 ≤ (rmC S (s_add S (nI pj) (nI qj)).2) by omega), (show 0 + 0 ≤ (rmS S (s_add S (nI pj) (nI qj)).2) by omega)⟩ (c2 := 0) (s2 := 0) rfl rfl (x_asBytes (some (b.1 4 (wh S qj))) 3 (Or.inr ⟨_, 3, _, rfl, (hx0.W hw_q rfl), Or.inr (Or.inr (Or.inl ⟨rfl, rfl⟩))⟩)) ?_
          refine g_astore (lv' := [(5, .null), (4, .null), (3, .int (nI 2)), (0, .ref M), (1, .int (nI pj)), (2, .int (nI qj))]) hC dX9_add_52 (by decide) rfl (Or.inl rfl) ?_
          refine g_iload_n hC dX9_add_54 rfl 2 rfl ?_
          refine g_ifN_ne (a := 2) (tgt := 68) hC dX9_add_55 (by decide) (by omega) (fun h55 => ?_) (fun h55 => ?_)
          · refine g_aload_n hC dX9_add_68 rfl 3 rfl (Or.inr ⟨_, rfl⟩) ?_
            refine g_iload_n hC dX9_add_69 rfl 2 rfl ?_
            refine g_Vx (As := [.int (nI 2)]) (st := []) hC 1 dX9_add_70 rfl (hx0.M hM).1 (hx0.M hM).2 gX9_add_X9_failed rfl (by decide +kernel) ⟨Nat.le_of_ble_eq_true rfl, Nat.le_of_ble_eq_true rfl⟩ rfl (Nat.le_of_ble_eq_true rfl) ⟨(show 0 + 0 ≤ (rmC S (s_add S (nI pj) (nI qj)).2) by omega), (show 0 + 0 ≤ (rmS S (s_add S (nI pj) (nI qj)).2) by omega)⟩ (c2 := 0) (s2 := 0) rfl rfl (x_failed hx0 M hM 2) (fun v1 L1 f1 hp1 => ?_)
            obtain ⟨rfl, hx1⟩ := hp1
            show gW X vwCl 6 L1 f1 0 0 73 [(5, .null), (4, .null), (3, .int (nI 2)), (0, .ref M), (1, .int (nI pj)), (2, .int (nI qj))] [.int (fA 2)]
            have hc_p : castF S pj 4 = 1 := by unfold castF isO; rw [hk_p] <;> decide
            have hc_q : castF S qj 1 = 2 := by unfold castF isO; rw [hk_q] <;> decide
            have hbf : bthF S pj qj 1 = 2 := by unfold bthF; rw [hc_p, hc_q] <;> decide
            have hE : s_add S (nI pj) (nI qj) = (fA 2, (aSc (thS S) 1 2)) := by
              unfold s_add
              rw [if_pos h4, if_pos h11, hpl_p, hpl_q, hbf, if_pos (show 0 < 2 by decide)] <;> rfl
            refine g_widen (c2 := (rmC S (s_add S (nI pj) (nI qj)).2)) (s2 := (rmS S (s_add S (nI pj) (nI qj)).2)) (show 0 ≤ (rmC S (s_add S (nI pj) (nI qj)).2) by omega) (show 0 ≤ (rmS S (s_add S (nI pj) (nI qj)).2) by omega) ?_
            exact g_iret hC hR dX9_add_73 ⟨b, congrArg (fun z => some (Value.int (Prod.fst z))) hE.symm, by rw [hE]; exact hx1, xG.rf⟩
          · exfalso; omega
        · have hw_q : wh S qj < S.1 13 := hI.wt hqj (by omega)
          have hb_q : S.2.1 14 (wh S qj) = 0 := by have := ((hI.2.1 _ hqj).2.2.2.2.2 (by omega)).2; omega
          have hp0_q : plcF (thS S) b qj = some (b.1 6 (wh S qj)) := plc_k hqj hk_q (by decide)
          refine g_aald hC 5 rfl (hx0.Mp rfl).1 (hx0.Mp rfl).2 (qj) rfl (show qj < 10 by omega) (by decide) dX9_add_27 ?_
          refine g_val (w := .ref (b.1 6 (wh S qj))) (congrArg va_rf hp0_q) ?_
          refine g_S (As := [.null, .ref (b.1 6 (wh S qj))]) (st := []) hC 2 dX9_add_28 gX9_add_X9_lookFault rfl (by decide +kernel) ⟨Nat.le_of_ble_eq_true rfl, Nat.le_of_ble_eq_true rfl⟩ rfl (Nat.le_of_ble_eq_true rfl) ⟨(show 0 + 0 ≤ (rmC S (s_add S (nI pj) (nI qj)).2) by omega), (show 0 + 0 ≤ (rmS S (s_add S (nI pj) (nI qj)).2) by omega)⟩ (c2 := 0) (s2 := 0) rfl rfl (x_lookFault none (some (b.1 6 (wh S qj))) 0 4 (Or.inl ⟨rfl, rfl⟩) (Or.inr ⟨_, 5, _, rfl, (hx0.T hw_q rfl hb_q), Or.inr (Or.inr (Or.inr (Or.inl ⟨rfl, rfl⟩)))⟩)) ?_
          refine g_istore_n (lv' := [(3, .int (nI 2)), (0, .ref M), (1, .int (nI pj)), (2, .int (nI qj))]) hC dX9_add_31 rfl (by decide) rfl ?_
          refine g_aload_n hC dX9_add_32 rfl 1 rfl (Or.inr ⟨_, rfl⟩) ?_
          refine g_get hC (by decide +kernel) rfl (hx0.M hM).1 (hx0.M hM).2 0 (by decide) (by decide +kernel) (Or.inl rfl) rfl dX9_add_33 ?_
          refine g_iload_n hC dX9_add_36 rfl 2 rfl ?_
          refine g_aald hC 5 rfl (hx0.Mp rfl).1 (hx0.Mp rfl).2 (pj) rfl (show pj < 10 by omega) (by decide) dX9_add_37 ?_
          refine g_val (w := .null) (congrArg va_rf hp0_p) ?_
          refine g_S (As := [.null]) (st := []) hC 1 dX9_add_38 gX9_add_X9_asTable rfl (by decide +kernel) ⟨Nat.le_of_ble_eq_true rfl, Nat.le_of_ble_eq_true rfl⟩ rfl (Nat.le_of_ble_eq_true rfl) ⟨(show 0 + 0 ≤ (rmC S (s_add S (nI pj) (nI qj)).2) by omega), (show 0 + 0 ≤ (rmS S (s_add S (nI pj) (nI qj)).2) by omega)⟩ (c2 := 0) (s2 := 0) rfl rfl (x_asTable none 0 (Or.inl ⟨rfl, rfl⟩)) ?_
          refine g_astore (lv' := [(4, .null), (3, .int (nI 2)), (0, .ref M), (1, .int (nI pj)), (2, .int (nI qj))]) hC dX9_add_41 (by decide) rfl (Or.inl rfl) ?_
          refine g_aload_n hC dX9_add_43 rfl 2 rfl (Or.inr ⟨_, rfl⟩) ?_
          refine g_get hC (by decide +kernel) rfl (hx0.M hM).1 (hx0.M hM).2 0 (by decide) (by decide +kernel) (Or.inl rfl) rfl dX9_add_44 ?_
          refine g_iload_n hC dX9_add_47 rfl 4 rfl ?_
          refine g_aald hC 5 rfl (hx0.Mp rfl).1 (hx0.Mp rfl).2 (qj) rfl (show qj < 10 by omega) (by decide) dX9_add_48 ?_
          refine g_val (w := .ref (b.1 6 (wh S qj))) (congrArg va_rf hp0_q) ?_
          refine g_S (As := [.ref (b.1 6 (wh S qj))]) (st := []) hC 1 dX9_add_49 gX9_add_X9_asBytes rfl (by decide +kernel) ⟨Nat.le_of_ble_eq_true rfl, Nat.le_of_ble_eq_true rfl⟩ rfl (Nat.le_of_ble_eq_true rfl) ⟨(show 0 + 0 ≤ (rmC S (s_add S (nI pj) (nI qj)).2) by omega), (show 0 + 0 ≤ (rmS S (s_add S (nI pj) (nI qj)).2) by omega)⟩ (c2 := 0) (s2 := 0) rfl rfl (x_asBytes (some (b.1 6 (wh S qj))) 4 (Or.inr ⟨_, 5, _, rfl, (hx0.T hw_q rfl hb_q), Or.inr (Or.inr (Or.inr (Or.inl ⟨rfl, rfl⟩)))⟩)) ?_
          refine g_astore (lv' := [(5, .null), (4, .null), (3, .int (nI 2)), (0, .ref M), (1, .int (nI pj)), (2, .int (nI qj))]) hC dX9_add_52 (by decide) rfl (Or.inl rfl) ?_
          refine g_iload_n hC dX9_add_54 rfl 2 rfl ?_
          refine g_ifN_ne (a := 2) (tgt := 68) hC dX9_add_55 (by decide) (by omega) (fun h55 => ?_) (fun h55 => ?_)
          · refine g_aload_n hC dX9_add_68 rfl 3 rfl (Or.inr ⟨_, rfl⟩) ?_
            refine g_iload_n hC dX9_add_69 rfl 2 rfl ?_
            refine g_Vx (As := [.int (nI 2)]) (st := []) hC 1 dX9_add_70 rfl (hx0.M hM).1 (hx0.M hM).2 gX9_add_X9_failed rfl (by decide +kernel) ⟨Nat.le_of_ble_eq_true rfl, Nat.le_of_ble_eq_true rfl⟩ rfl (Nat.le_of_ble_eq_true rfl) ⟨(show 0 + 0 ≤ (rmC S (s_add S (nI pj) (nI qj)).2) by omega), (show 0 + 0 ≤ (rmS S (s_add S (nI pj) (nI qj)).2) by omega)⟩ (c2 := 0) (s2 := 0) rfl rfl (x_failed hx0 M hM 2) (fun v1 L1 f1 hp1 => ?_)
            obtain ⟨rfl, hx1⟩ := hp1
            show gW X vwCl 6 L1 f1 0 0 73 [(5, .null), (4, .null), (3, .int (nI 2)), (0, .ref M), (1, .int (nI pj)), (2, .int (nI qj))] [.int (fA 2)]
            have hc_p : castF S pj 4 = 1 := by unfold castF isO; rw [hk_p] <;> decide
            have hc_q : castF S qj 1 = 2 := by unfold castF isO; rw [hk_q] <;> decide
            have hbf : bthF S pj qj 1 = 2 := by unfold bthF; rw [hc_p, hc_q] <;> decide
            have hE : s_add S (nI pj) (nI qj) = (fA 2, (aSc (thS S) 1 2)) := by
              unfold s_add
              rw [if_pos h4, if_pos h11, hpl_p, hpl_q, hbf, if_pos (show 0 < 2 by decide)] <;> rfl
            refine g_widen (c2 := (rmC S (s_add S (nI pj) (nI qj)).2)) (s2 := (rmS S (s_add S (nI pj) (nI qj)).2)) (show 0 ≤ (rmC S (s_add S (nI pj) (nI qj)).2) by omega) (show 0 ≤ (rmS S (s_add S (nI pj) (nI qj)).2) by omega) ?_
            exact g_iret hC hR dX9_add_73 ⟨b, congrArg (fun z => some (Value.int (Prod.fst z))) hE.symm, by rw [hE]; exact hx1, xG.rf⟩
          · exfalso; omega
        · have hw_q : wh S qj < S.1 13 := hI.wt hqj (by omega)
          have hb_q : S.2.1 14 (wh S qj) ≠ 0 := by have := ((hI.2.1 _ hqj).2.2.2.2.2 (by omega)).2; omega
          have hp0_q : plcF (thS S) b qj = some (b.1 6 (wh S qj)) := plc_k hqj hk_q (by decide)
          refine g_aald hC 5 rfl (hx0.Mp rfl).1 (hx0.Mp rfl).2 (qj) rfl (show qj < 10 by omega) (by decide) dX9_add_27 ?_
          refine g_val (w := .ref (b.1 6 (wh S qj))) (congrArg va_rf hp0_q) ?_
          refine g_S (As := [.null, .ref (b.1 6 (wh S qj))]) (st := []) hC 2 dX9_add_28 gX9_add_X9_lookFault rfl (by decide +kernel) ⟨Nat.le_of_ble_eq_true rfl, Nat.le_of_ble_eq_true rfl⟩ rfl (Nat.le_of_ble_eq_true rfl) ⟨(show 0 + 0 ≤ (rmC S (s_add S (nI pj) (nI qj)).2) by omega), (show 0 + 0 ≤ (rmS S (s_add S (nI pj) (nI qj)).2) by omega)⟩ (c2 := 0) (s2 := 0) rfl rfl (x_lookFault none (some (b.1 6 (wh S qj))) 0 5 (Or.inl ⟨rfl, rfl⟩) (Or.inr ⟨_, 1, _, rfl, (hx0.K hw_q rfl hb_q), Or.inr (Or.inr (Or.inr (Or.inr ⟨rfl, rfl⟩)))⟩)) ?_
          refine g_istore_n (lv' := [(3, .int (nI 2)), (0, .ref M), (1, .int (nI pj)), (2, .int (nI qj))]) hC dX9_add_31 rfl (by decide) rfl ?_
          refine g_aload_n hC dX9_add_32 rfl 1 rfl (Or.inr ⟨_, rfl⟩) ?_
          refine g_get hC (by decide +kernel) rfl (hx0.M hM).1 (hx0.M hM).2 0 (by decide) (by decide +kernel) (Or.inl rfl) rfl dX9_add_33 ?_
          refine g_iload_n hC dX9_add_36 rfl 2 rfl ?_
          refine g_aald hC 5 rfl (hx0.Mp rfl).1 (hx0.Mp rfl).2 (pj) rfl (show pj < 10 by omega) (by decide) dX9_add_37 ?_
          refine g_val (w := .null) (congrArg va_rf hp0_p) ?_
          refine g_S (As := [.null]) (st := []) hC 1 dX9_add_38 gX9_add_X9_asTable rfl (by decide +kernel) ⟨Nat.le_of_ble_eq_true rfl, Nat.le_of_ble_eq_true rfl⟩ rfl (Nat.le_of_ble_eq_true rfl) ⟨(show 0 + 0 ≤ (rmC S (s_add S (nI pj) (nI qj)).2) by omega), (show 0 + 0 ≤ (rmS S (s_add S (nI pj) (nI qj)).2) by omega)⟩ (c2 := 0) (s2 := 0) rfl rfl (x_asTable none 0 (Or.inl ⟨rfl, rfl⟩)) ?_
          refine g_astore (lv' := [(4, .null), (3, .int (nI 2)), (0, .ref M), (1, .int (nI pj)), (2, .int (nI qj))]) hC dX9_add_41 (by decide) rfl (Or.inl rfl) ?_
          refine g_aload_n hC dX9_add_43 rfl 2 rfl (Or.inr ⟨_, rfl⟩) ?_
          refine g_get hC (by decide +kernel) rfl (hx0.M hM).1 (hx0.M hM).2 0 (by decide) (by decide +kernel) (Or.inl rfl) rfl dX9_add_44 ?_
          refine g_iload_n hC dX9_add_47 rfl 4 rfl ?_
          refine g_aald hC 5 rfl (hx0.Mp rfl).1 (hx0.Mp rfl).2 (qj) rfl (show qj < 10 by omega) (by decide) dX9_add_48 ?_
          refine g_val (w := .ref (b.1 6 (wh S qj))) (congrArg va_rf hp0_q) ?_
          refine g_S (As := [.ref (b.1 6 (wh S qj))]) (st := []) hC 1 dX9_add_49 gX9_add_X9_asBytes rfl (by decide +kernel) ⟨Nat.le_of_ble_eq_true rfl, Nat.le_of_ble_eq_true rfl⟩ rfl (Nat.le_of_ble_eq_true rfl) ⟨(show 0 + 0 ≤ (rmC S (s_add S (nI pj) (nI qj)).2) by omega), (show 0 + 0 ≤ (rmS S (s_add S (nI pj) (nI qj)).2) by omega)⟩ (c2 := 0) (s2 := 0) rfl rfl (x_asBytes (some (b.1 6 (wh S qj))) 5 (Or.inr ⟨_, 1, _, rfl, (hx0.K hw_q rfl hb_q), Or.inr (Or.inr (Or.inr (Or.inr ⟨rfl, rfl⟩)))⟩)) ?_
          refine g_astore (lv' := [(5, .null), (4, .null), (3, .int (nI 2)), (0, .ref M), (1, .int (nI pj)), (2, .int (nI qj))]) hC dX9_add_52 (by decide) rfl (Or.inl rfl) ?_
          refine g_iload_n hC dX9_add_54 rfl 2 rfl ?_
          refine g_ifN_ne (a := 2) (tgt := 68) hC dX9_add_55 (by decide) (by omega) (fun h55 => ?_) (fun h55 => ?_)
          · refine g_aload_n hC dX9_add_68 rfl 3 rfl (Or.inr ⟨_, rfl⟩) ?_
            refine g_iload_n hC dX9_add_69 rfl 2 rfl ?_
            refine g_Vx (As := [.int (nI 2)]) (st := []) hC 1 dX9_add_70 rfl (hx0.M hM).1 (hx0.M hM).2 gX9_add_X9_failed rfl (by decide +kernel) ⟨Nat.le_of_ble_eq_true rfl, Nat.le_of_ble_eq_true rfl⟩ rfl (Nat.le_of_ble_eq_true rfl) ⟨(show 0 + 0 ≤ (rmC S (s_add S (nI pj) (nI qj)).2) by omega), (show 0 + 0 ≤ (rmS S (s_add S (nI pj) (nI qj)).2) by omega)⟩ (c2 := 0) (s2 := 0) rfl rfl (x_failed hx0 M hM 2) (fun v1 L1 f1 hp1 => ?_)
            obtain ⟨rfl, hx1⟩ := hp1
            show gW X vwCl 6 L1 f1 0 0 73 [(5, .null), (4, .null), (3, .int (nI 2)), (0, .ref M), (1, .int (nI pj)), (2, .int (nI qj))] [.int (fA 2)]
            have hc_p : castF S pj 4 = 1 := by unfold castF isO; rw [hk_p] <;> decide
            have hc_q : castF S qj 1 = 2 := by unfold castF isO; rw [hk_q] <;> decide
            have hbf : bthF S pj qj 1 = 2 := by unfold bthF; rw [hc_p, hc_q] <;> decide
            have hE : s_add S (nI pj) (nI qj) = (fA 2, (aSc (thS S) 1 2)) := by
              unfold s_add
              rw [if_pos h4, if_pos h11, hpl_p, hpl_q, hbf, if_pos (show 0 < 2 by decide)] <;> rfl
            refine g_widen (c2 := (rmC S (s_add S (nI pj) (nI qj)).2)) (s2 := (rmS S (s_add S (nI pj) (nI qj)).2)) (show 0 ≤ (rmC S (s_add S (nI pj) (nI qj)).2) by omega) (show 0 ≤ (rmS S (s_add S (nI pj) (nI qj)).2) by omega) ?_
            exact g_iret hC hR dX9_add_73 ⟨b, congrArg (fun z => some (Value.int (Prod.fst z))) hE.symm, by rw [hE]; exact hx1, xG.rf⟩
          · exfalso; omega
      · have hw_p : wh S pj < S.1 4 := hI.wl hpj hk_p
        have hp0_p : plcF (thS S) b pj = some (b.1 0 (wh S pj)) := plc_k hpj hk_p (by decide)
        refine g_aald hC 5 rfl (hx0.Mp rfl).1 (hx0.Mp rfl).2 (pj) rfl (show pj < 10 by omega) (by decide) dX9_add_21 ?_
        refine g_val (w := .ref (b.1 0 (wh S pj))) (congrArg va_rf hp0_p) ?_
        refine g_aload_n hC dX9_add_22 rfl 0 rfl (Or.inr ⟨_, rfl⟩) ?_
        refine g_get hC (by decide +kernel) rfl (hx0.M hM).1 (hx0.M hM).2 0 (by decide) (by decide +kernel) (Or.inl rfl) rfl dX9_add_23 ?_
        refine g_iload_n hC dX9_add_26 rfl 2 rfl ?_
        have h5_q := hI.k5 hqj
        rcases (show kd S qj = 0 ∨ kd S qj = 1 ∨ kd S qj = 2 ∨ kd S qj = 3 ∨ kd S qj = 4 ∨ kd S qj = 5 by omega) with hk_q | hk_q | hk_q | hk_q | hk_q | hk_q
        · have hp0_q : plcF (thS S) b qj = none := plc_0 hqj hk_q
          refine g_aald hC 5 rfl (hx0.Mp rfl).1 (hx0.Mp rfl).2 (qj) rfl (show qj < 10 by omega) (by decide) dX9_add_27 ?_
          refine g_val (w := .null) (congrArg va_rf hp0_q) ?_
          refine g_S (As := [.ref (b.1 0 (wh S pj)), .null]) (st := []) hC 2 dX9_add_28 gX9_add_X9_lookFault rfl (by decide +kernel) ⟨Nat.le_of_ble_eq_true rfl, Nat.le_of_ble_eq_true rfl⟩ rfl (Nat.le_of_ble_eq_true rfl) ⟨(show 0 + 0 ≤ (rmC S (s_add S (nI pj) (nI qj)).2) by omega), (show 0 + 0 ≤ (rmS S (s_add S (nI pj) (nI qj)).2) by omega)⟩ (c2 := 0) (s2 := 0) rfl rfl (x_lookFault (some (b.1 0 (wh S pj))) none 1 0 (Or.inr ⟨_, 0, _, rfl, (hx0.B hw_p rfl), Or.inl ⟨rfl, rfl⟩⟩) (Or.inl ⟨rfl, rfl⟩)) ?_
          refine g_istore_n (lv' := [(3, .int (nI 2)), (0, .ref M), (1, .int (nI pj)), (2, .int (nI qj))]) hC dX9_add_31 rfl (by decide) rfl ?_
          refine g_aload_n hC dX9_add_32 rfl 1 rfl (Or.inr ⟨_, rfl⟩) ?_
          refine g_get hC (by decide +kernel) rfl (hx0.M hM).1 (hx0.M hM).2 0 (by decide) (by decide +kernel) (Or.inl rfl) rfl dX9_add_33 ?_
          refine g_iload_n hC dX9_add_36 rfl 2 rfl ?_
          refine g_aald hC 5 rfl (hx0.Mp rfl).1 (hx0.Mp rfl).2 (pj) rfl (show pj < 10 by omega) (by decide) dX9_add_37 ?_
          refine g_val (w := .ref (b.1 0 (wh S pj))) (congrArg va_rf hp0_p) ?_
          refine g_S (As := [.ref (b.1 0 (wh S pj))]) (st := []) hC 1 dX9_add_38 gX9_add_X9_asTable rfl (by decide +kernel) ⟨Nat.le_of_ble_eq_true rfl, Nat.le_of_ble_eq_true rfl⟩ rfl (Nat.le_of_ble_eq_true rfl) ⟨(show 0 + 0 ≤ (rmC S (s_add S (nI pj) (nI qj)).2) by omega), (show 0 + 0 ≤ (rmS S (s_add S (nI pj) (nI qj)).2) by omega)⟩ (c2 := 0) (s2 := 0) rfl rfl (x_asTable (some (b.1 0 (wh S pj))) 1 (Or.inr ⟨_, 0, _, rfl, (hx0.B hw_p rfl), Or.inl ⟨rfl, rfl⟩⟩)) ?_
          refine g_astore (lv' := [(4, .null), (3, .int (nI 2)), (0, .ref M), (1, .int (nI pj)), (2, .int (nI qj))]) hC dX9_add_41 (by decide) rfl (Or.inl rfl) ?_
          refine g_aload_n hC dX9_add_43 rfl 2 rfl (Or.inr ⟨_, rfl⟩) ?_
          refine g_get hC (by decide +kernel) rfl (hx0.M hM).1 (hx0.M hM).2 0 (by decide) (by decide +kernel) (Or.inl rfl) rfl dX9_add_44 ?_
          refine g_iload_n hC dX9_add_47 rfl 4 rfl ?_
          refine g_aald hC 5 rfl (hx0.Mp rfl).1 (hx0.Mp rfl).2 (qj) rfl (show qj < 10 by omega) (by decide) dX9_add_48 ?_
          refine g_val (w := .null) (congrArg va_rf hp0_q) ?_
          refine g_S (As := [.null]) (st := []) hC 1 dX9_add_49 gX9_add_X9_asBytes rfl (by decide +kernel) ⟨Nat.le_of_ble_eq_true rfl, Nat.le_of_ble_eq_true rfl⟩ rfl (Nat.le_of_ble_eq_true rfl) ⟨(show 0 + 0 ≤ (rmC S (s_add S (nI pj) (nI qj)).2) by omega), (show 0 + 0 ≤ (rmS S (s_add S (nI pj) (nI qj)).2) by omega)⟩ (c2 := 0) (s2 := 0) rfl rfl (x_asBytes none 0 (Or.inl ⟨rfl, rfl⟩)) ?_
          refine g_astore (lv' := [(5, .null), (4, .null), (3, .int (nI 2)), (0, .ref M), (1, .int (nI pj)), (2, .int (nI qj))]) hC dX9_add_52 (by decide) rfl (Or.inl rfl) ?_
          refine g_iload_n hC dX9_add_54 rfl 2 rfl ?_
          refine g_ifN_ne (a := 2) (tgt := 68) hC dX9_add_55 (by decide) (by omega) (fun h55 => ?_) (fun h55 => ?_)
          · refine g_aload_n hC dX9_add_68 rfl 3 rfl (Or.inr ⟨_, rfl⟩) ?_
            refine g_iload_n hC dX9_add_69 rfl 2 rfl ?_
            refine g_Vx (As := [.int (nI 2)]) (st := []) hC 1 dX9_add_70 rfl (hx0.M hM).1 (hx0.M hM).2 gX9_add_X9_failed rfl (by decide +kernel) ⟨Nat.le_of_ble_eq_true rfl, Nat.le_of_ble_eq_true rfl⟩ rfl (Nat.le_of_ble_eq_true rfl) ⟨(show 0 + 0 ≤ (rmC S (s_add S (nI pj) (nI qj)).2) by omega), (show 0 + 0 ≤ (rmS S (s_add S (nI pj) (nI qj)).2) by omega)⟩ (c2 := 0) (s2 := 0) rfl rfl (x_failed hx0 M hM 2) (fun v1 L1 f1 hp1 => ?_)
            obtain ⟨rfl, hx1⟩ := hp1
            show gW X vwCl 6 L1 f1 0 0 73 [(5, .null), (4, .null), (3, .int (nI 2)), (0, .ref M), (1, .int (nI pj)), (2, .int (nI qj))] [.int (fA 2)]
            have hc_p : castF S pj 4 = 2 := by unfold castF isO; rw [hk_p] <;> decide
            have hc_q : castF S qj 1 = 1 := by unfold castF isO; rw [hk_q] <;> decide
            have hbf : bthF S pj qj 1 = 2 := by unfold bthF; rw [hc_p, hc_q] <;> decide
            have hE : s_add S (nI pj) (nI qj) = (fA 2, (aSc (thS S) 1 2)) := by
              unfold s_add
              rw [if_pos h4, if_pos h11, hpl_p, hpl_q, hbf, if_pos (show 0 < 2 by decide)] <;> rfl
            refine g_widen (c2 := (rmC S (s_add S (nI pj) (nI qj)).2)) (s2 := (rmS S (s_add S (nI pj) (nI qj)).2)) (show 0 ≤ (rmC S (s_add S (nI pj) (nI qj)).2) by omega) (show 0 ≤ (rmS S (s_add S (nI pj) (nI qj)).2) by omega) ?_
            exact g_iret hC hR dX9_add_73 ⟨b, congrArg (fun z => some (Value.int (Prod.fst z))) hE.symm, by rw [hE]; exact hx1, xG.rf⟩
          · exfalso; omega
        · have hw_q : wh S qj < S.1 4 := hI.wl hqj hk_q
          have hp0_q : plcF (thS S) b qj = some (b.1 0 (wh S qj)) := plc_k hqj hk_q (by decide)
          refine g_aald hC 5 rfl (hx0.Mp rfl).1 (hx0.Mp rfl).2 (qj) rfl (show qj < 10 by omega) (by decide) dX9_add_27 ?_
          refine g_val (w := .ref (b.1 0 (wh S qj))) (congrArg va_rf hp0_q) ?_
          refine g_S (As := [.ref (b.1 0 (wh S pj)), .ref (b.1 0 (wh S qj))]) (st := []) hC 2 dX9_add_28 gX9_add_X9_lookFault rfl (by decide +kernel) ⟨Nat.le_of_ble_eq_true rfl, Nat.le_of_ble_eq_true rfl⟩ rfl (Nat.le_of_ble_eq_true rfl) ⟨(show 0 + 0 ≤ (rmC S (s_add S (nI pj) (nI qj)).2) by omega), (show 0 + 0 ≤ (rmS S (s_add S (nI pj) (nI qj)).2) by omega)⟩ (c2 := 0) (s2 := 0) rfl rfl (x_lookFault (some (b.1 0 (wh S pj))) (some (b.1 0 (wh S qj))) 1 1 (Or.inr ⟨_, 0, _, rfl, (hx0.B hw_p rfl), Or.inl ⟨rfl, rfl⟩⟩) (Or.inr ⟨_, 0, _, rfl, (hx0.B hw_q rfl), Or.inl ⟨rfl, rfl⟩⟩)) ?_
          refine g_istore_n (lv' := [(3, .int (nI 2)), (0, .ref M), (1, .int (nI pj)), (2, .int (nI qj))]) hC dX9_add_31 rfl (by decide) rfl ?_
          refine g_aload_n hC dX9_add_32 rfl 1 rfl (Or.inr ⟨_, rfl⟩) ?_
          refine g_get hC (by decide +kernel) rfl (hx0.M hM).1 (hx0.M hM).2 0 (by decide) (by decide +kernel) (Or.inl rfl) rfl dX9_add_33 ?_
          refine g_iload_n hC dX9_add_36 rfl 2 rfl ?_
          refine g_aald hC 5 rfl (hx0.Mp rfl).1 (hx0.Mp rfl).2 (pj) rfl (show pj < 10 by omega) (by decide) dX9_add_37 ?_
          refine g_val (w := .ref (b.1 0 (wh S pj))) (congrArg va_rf hp0_p) ?_
          refine g_S (As := [.ref (b.1 0 (wh S pj))]) (st := []) hC 1 dX9_add_38 gX9_add_X9_asTable rfl (by decide +kernel) ⟨Nat.le_of_ble_eq_true rfl, Nat.le_of_ble_eq_true rfl⟩ rfl (Nat.le_of_ble_eq_true rfl) ⟨(show 0 + 0 ≤ (rmC S (s_add S (nI pj) (nI qj)).2) by omega), (show 0 + 0 ≤ (rmS S (s_add S (nI pj) (nI qj)).2) by omega)⟩ (c2 := 0) (s2 := 0) rfl rfl (x_asTable (some (b.1 0 (wh S pj))) 1 (Or.inr ⟨_, 0, _, rfl, (hx0.B hw_p rfl), Or.inl ⟨rfl, rfl⟩⟩)) ?_
          refine g_astore (lv' := [(4, .null), (3, .int (nI 2)), (0, .ref M), (1, .int (nI pj)), (2, .int (nI qj))]) hC dX9_add_41 (by decide) rfl (Or.inl rfl) ?_
          refine g_aload_n hC dX9_add_43 rfl 2 rfl (Or.inr ⟨_, rfl⟩) ?_
          refine g_get hC (by decide +kernel) rfl (hx0.M hM).1 (hx0.M hM).2 0 (by decide) (by decide +kernel) (Or.inl rfl) rfl dX9_add_44 ?_
          refine g_iload_n hC dX9_add_47 rfl 4 rfl ?_
          refine g_aald hC 5 rfl (hx0.Mp rfl).1 (hx0.Mp rfl).2 (qj) rfl (show qj < 10 by omega) (by decide) dX9_add_48 ?_
          refine g_val (w := .ref (b.1 0 (wh S qj))) (congrArg va_rf hp0_q) ?_
          refine g_S (As := [.ref (b.1 0 (wh S qj))]) (st := []) hC 1 dX9_add_49 gX9_add_X9_asBytes rfl (by decide +kernel) ⟨Nat.le_of_ble_eq_true rfl, Nat.le_of_ble_eq_true rfl⟩ rfl (Nat.le_of_ble_eq_true rfl) ⟨(show 0 + 0 ≤ (rmC S (s_add S (nI pj) (nI qj)).2) by omega), (show 0 + 0 ≤ (rmS S (s_add S (nI pj) (nI qj)).2) by omega)⟩ (c2 := 0) (s2 := 0) rfl rfl (x_asBytes (some (b.1 0 (wh S qj))) 1 (Or.inr ⟨_, 0, _, rfl, (hx0.B hw_q rfl), Or.inl ⟨rfl, rfl⟩⟩)) ?_
          refine g_astore (lv' := [(5, .ref (b.1 0 (wh S qj))), (4, .null), (3, .int (nI 2)), (0, .ref M), (1, .int (nI pj)), (2, .int (nI qj))]) hC dX9_add_52 (by decide) rfl (Or.inr ⟨_, rfl⟩) ?_
          refine g_iload_n hC dX9_add_54 rfl 2 rfl ?_
          refine g_ifN_ne (a := 2) (tgt := 68) hC dX9_add_55 (by decide) (by omega) (fun h55 => ?_) (fun h55 => ?_)
          · refine g_aload_n hC dX9_add_68 rfl 3 rfl (Or.inr ⟨_, rfl⟩) ?_
            refine g_iload_n hC dX9_add_69 rfl 2 rfl ?_
            refine g_Vx (As := [.int (nI 2)]) (st := []) hC 1 dX9_add_70 rfl (hx0.M hM).1 (hx0.M hM).2 gX9_add_X9_failed rfl (by decide +kernel) ⟨Nat.le_of_ble_eq_true rfl, Nat.le_of_ble_eq_true rfl⟩ rfl (Nat.le_of_ble_eq_true rfl) ⟨(show 0 + 0 ≤ (rmC S (s_add S (nI pj) (nI qj)).2) by omega), (show 0 + 0 ≤ (rmS S (s_add S (nI pj) (nI qj)).2) by omega)⟩ (c2 := 0) (s2 := 0) rfl rfl (x_failed hx0 M hM 2) (fun v1 L1 f1 hp1 => ?_)
            obtain ⟨rfl, hx1⟩ := hp1
            show gW X vwCl 6 L1 f1 0 0 73 [(5, .ref (b.1 0 (wh S qj))), (4, .null), (3, .int (nI 2)), (0, .ref M), (1, .int (nI pj)), (2, .int (nI qj))] [.int (fA 2)]
            have hc_p : castF S pj 4 = 2 := by unfold castF isO; rw [hk_p] <;> decide
            have hc_q : castF S qj 1 = 0 := by unfold castF isO; rw [hk_q] <;> decide
            have hbf : bthF S pj qj 1 = 2 := by unfold bthF; rw [hc_p, hc_q] <;> decide
            have hE : s_add S (nI pj) (nI qj) = (fA 2, (aSc (thS S) 1 2)) := by
              unfold s_add
              rw [if_pos h4, if_pos h11, hpl_p, hpl_q, hbf, if_pos (show 0 < 2 by decide)] <;> rfl
            refine g_widen (c2 := (rmC S (s_add S (nI pj) (nI qj)).2)) (s2 := (rmS S (s_add S (nI pj) (nI qj)).2)) (show 0 ≤ (rmC S (s_add S (nI pj) (nI qj)).2) by omega) (show 0 ≤ (rmS S (s_add S (nI pj) (nI qj)).2) by omega) ?_
            exact g_iret hC hR dX9_add_73 ⟨b, congrArg (fun z => some (Value.int (Prod.fst z))) hE.symm, by rw [hE]; exact hx1, xG.rf⟩
          · exfalso; omega
        · have hw_q : wh S qj < S.1 7 := hI.ws hqj hk_q
          have hp0_q : plcF (thS S) b qj = some (b.1 2 (wh S qj)) := plc_k hqj hk_q (by decide)
          refine g_aald hC 5 rfl (hx0.Mp rfl).1 (hx0.Mp rfl).2 (qj) rfl (show qj < 10 by omega) (by decide) dX9_add_27 ?_
          refine g_val (w := .ref (b.1 2 (wh S qj))) (congrArg va_rf hp0_q) ?_
          refine g_S (As := [.ref (b.1 0 (wh S pj)), .ref (b.1 2 (wh S qj))]) (st := []) hC 2 dX9_add_28 gX9_add_X9_lookFault rfl (by decide +kernel) ⟨Nat.le_of_ble_eq_true rfl, Nat.le_of_ble_eq_true rfl⟩ rfl (Nat.le_of_ble_eq_true rfl) ⟨(show 0 + 0 ≤ (rmC S (s_add S (nI pj) (nI qj)).2) by omega), (show 0 + 0 ≤ (rmS S (s_add S (nI pj) (nI qj)).2) by omega)⟩ (c2 := 0) (s2 := 0) rfl rfl (x_lookFault (some (b.1 0 (wh S pj))) (some (b.1 2 (wh S qj))) 1 2 (Or.inr ⟨_, 0, _, rfl, (hx0.B hw_p rfl), Or.inl ⟨rfl, rfl⟩⟩) (Or.inr ⟨_, 4, _, rfl, (hx0.G hw_q rfl), Or.inr (Or.inl ⟨rfl, rfl⟩)⟩)) ?_
          refine g_istore_n (lv' := [(3, .int (nI 2)), (0, .ref M), (1, .int (nI pj)), (2, .int (nI qj))]) hC dX9_add_31 rfl (by decide) rfl ?_
          refine g_aload_n hC dX9_add_32 rfl 1 rfl (Or.inr ⟨_, rfl⟩) ?_
          refine g_get hC (by decide +kernel) rfl (hx0.M hM).1 (hx0.M hM).2 0 (by decide) (by decide +kernel) (Or.inl rfl) rfl dX9_add_33 ?_
          refine g_iload_n hC dX9_add_36 rfl 2 rfl ?_
          refine g_aald hC 5 rfl (hx0.Mp rfl).1 (hx0.Mp rfl).2 (pj) rfl (show pj < 10 by omega) (by decide) dX9_add_37 ?_
          refine g_val (w := .ref (b.1 0 (wh S pj))) (congrArg va_rf hp0_p) ?_
          refine g_S (As := [.ref (b.1 0 (wh S pj))]) (st := []) hC 1 dX9_add_38 gX9_add_X9_asTable rfl (by decide +kernel) ⟨Nat.le_of_ble_eq_true rfl, Nat.le_of_ble_eq_true rfl⟩ rfl (Nat.le_of_ble_eq_true rfl) ⟨(show 0 + 0 ≤ (rmC S (s_add S (nI pj) (nI qj)).2) by omega), (show 0 + 0 ≤ (rmS S (s_add S (nI pj) (nI qj)).2) by omega)⟩ (c2 := 0) (s2 := 0) rfl rfl (x_asTable (some (b.1 0 (wh S pj))) 1 (Or.inr ⟨_, 0, _, rfl, (hx0.B hw_p rfl), Or.inl ⟨rfl, rfl⟩⟩)) ?_
          refine g_astore (lv' := [(4, .null), (3, .int (nI 2)), (0, .ref M), (1, .int (nI pj)), (2, .int (nI qj))]) hC dX9_add_41 (by decide) rfl (Or.inl rfl) ?_
          refine g_aload_n hC dX9_add_43 rfl 2 rfl (Or.inr ⟨_, rfl⟩) ?_
          refine g_get hC (by decide +kernel) rfl (hx0.M hM).1 (hx0.M hM).2 0 (by decide) (by decide +kernel) (Or.inl rfl) rfl dX9_add_44 ?_
          refine g_iload_n hC dX9_add_47 rfl 4 rfl ?_
          refine g_aald hC 5 rfl (hx0.Mp rfl).1 (hx0.Mp rfl).2 (qj) rfl (show qj < 10 by omega) (by decide) dX9_add_48 ?_
          refine g_val (w := .ref (b.1 2 (wh S qj))) (congrArg va_rf hp0_q) ?_
          refine g_S (As := [.ref (b.1 2 (wh S qj))]) (st := []) hC 1 dX9_add_49 gX9_add_X9_asBytes rfl (by decide +kernel) ⟨Nat.le_of_ble_eq_true rfl, Nat.le_of_ble_eq_true rfl⟩ rfl (Nat.le_of_ble_eq_true rfl) ⟨(show 0 + 0 ≤ (rmC S (s_add S (nI pj) (nI qj)).2) by omega), (show 0 + 0 ≤ (rmS S (s_add S (nI pj) (nI qj)).2) by omega)⟩ (c2 := 0) (s2 := 0) rfl rfl (x_asBytes (some (b.1 2 (wh S qj))) 2 (Or.inr ⟨_, 4, _, rfl, (hx0.G hw_q rfl), Or.inr (Or.inl ⟨rfl, rfl⟩)⟩)) ?_
          refine g_astore (lv' := [(5, .null), (4, .null), (3, .int (nI 2)), (0, .ref M), (1, .int (nI pj)), (2, .int (nI qj))]) hC dX9_add_52 (by decide) rfl (Or.inl rfl) ?_
          refine g_iload_n hC dX9_add_54 rfl 2 rfl ?_
          refine g_ifN_ne (a := 2) (tgt := 68) hC dX9_add_55 (by decide) (by omega) (fun h55 => ?_) (fun h55 => ?_)
          · refine g_aload_n hC dX9_add_68 rfl 3 rfl (Or.inr ⟨_, rfl⟩) ?_
            refine g_iload_n hC dX9_add_69 rfl 2 rfl ?_
            refine g_Vx (As := [.int (nI 2)]) (st := []) hC 1 dX9_add_70 rfl (hx0.M hM).1 (hx0.M hM).2 gX9_add_X9_failed rfl (by decide +kernel) ⟨Nat.le_of_ble_eq_true rfl, Nat.le_of_ble_eq_true rfl⟩ rfl (Nat.le_of_ble_eq_true rfl) ⟨(show 0 + 0 ≤ (rmC S (s_add S (nI pj) (nI qj)).2) by omega), (show 0 + 0 ≤ (rmS S (s_add S (nI pj) (nI qj)).2) by omega)⟩ (c2 := 0) (s2 := 0) rfl rfl (x_failed hx0 M hM 2) (fun v1 L1 f1 hp1 => ?_)
            obtain ⟨rfl, hx1⟩ := hp1
            show gW X vwCl 6 L1 f1 0 0 73 [(5, .null), (4, .null), (3, .int (nI 2)), (0, .ref M), (1, .int (nI pj)), (2, .int (nI qj))] [.int (fA 2)]
            have hc_p : castF S pj 4 = 2 := by unfold castF isO; rw [hk_p] <;> decide
            have hc_q : castF S qj 1 = 2 := by unfold castF isO; rw [hk_q] <;> decide
            have hbf : bthF S pj qj 1 = 2 := by unfold bthF; rw [hc_p, hc_q] <;> decide
            have hE : s_add S (nI pj) (nI qj) = (fA 2, (aSc (thS S) 1 2)) := by
              unfold s_add
              rw [if_pos h4, if_pos h11, hpl_p, hpl_q, hbf, if_pos (show 0 < 2 by decide)] <;> rfl
            refine g_widen (c2 := (rmC S (s_add S (nI pj) (nI qj)).2)) (s2 := (rmS S (s_add S (nI pj) (nI qj)).2)) (show 0 ≤ (rmC S (s_add S (nI pj) (nI qj)).2) by omega) (show 0 ≤ (rmS S (s_add S (nI pj) (nI qj)).2) by omega) ?_
            exact g_iret hC hR dX9_add_73 ⟨b, congrArg (fun z => some (Value.int (Prod.fst z))) hE.symm, by rw [hE]; exact hx1, xG.rf⟩
          · exfalso; omega
        · have hw_q : wh S qj < S.1 10 := hI.wr hqj hk_q
          have hp0_q : plcF (thS S) b qj = some (b.1 4 (wh S qj)) := plc_k hqj hk_q (by decide)
          refine g_aald hC 5 rfl (hx0.Mp rfl).1 (hx0.Mp rfl).2 (qj) rfl (show qj < 10 by omega) (by decide) dX9_add_27 ?_
          refine g_val (w := .ref (b.1 4 (wh S qj))) (congrArg va_rf hp0_q) ?_
          refine g_S (As := [.ref (b.1 0 (wh S pj)), .ref (b.1 4 (wh S qj))]) (st := []) hC 2 dX9_add_28 gX9_add_X9_lookFault rfl (by decide +kernel) ⟨Nat.le_of_ble_eq_true rfl, Nat.le_of_ble_eq_true rfl⟩ rfl (Nat.le_of_ble_eq_true rfl) ⟨(show 0 + 0 ≤ (rmC S (s_add S (nI pj) (nI qj)).2) by omega), (show 0 + 0 ≤ (rmS S (s_add S (nI pj) (nI qj)).2) by omega)⟩ (c2 := 0) (s2 := 0) rfl rfl (x_lookFault (some (b.1 0 (wh S pj))) (some (b.1 4 (wh S qj))) 1 3 (Or.inr ⟨_, 0, _, rfl, (hx0.B hw_p rfl), Or.inl ⟨rfl, rfl⟩⟩) (Or.inr ⟨_, 3, _, rfl, (hx0.W hw_q rfl), Or.inr (Or.inr (Or.inl ⟨rfl, rfl⟩))⟩)) ?_
          refine g_istore_n (lv' := [(3, .int (nI 2)), (0, .ref M), (1, .int (nI pj)), (2, .int (nI qj))]) hC dX9_add_31 rfl (by decide) rfl ?_
          refine g_aload_n hC dX9_add_32 rfl 1 rfl (Or.inr ⟨_, rfl⟩) ?_
          refine g_get hC (by decide +kernel) rfl (hx0.M hM).1 (hx0.M hM).2 0 (by decide) (by decide +kernel) (Or.inl rfl) rfl dX9_add_33 ?_
          refine g_iload_n hC dX9_add_36 rfl 2 rfl ?_
          refine g_aald hC 5 rfl (hx0.Mp rfl).1 (hx0.Mp rfl).2 (pj) rfl (show pj < 10 by omega) (by decide) dX9_add_37 ?_
          refine g_val (w := .ref (b.1 0 (wh S pj))) (congrArg va_rf hp0_p) ?_
          refine g_S (As := [.ref (b.1 0 (wh S pj))]) (st := []) hC 1 dX9_add_38 gX9_add_X9_asTable rfl (by decide +kernel) ⟨Nat.le_of_ble_eq_true rfl, Nat.le_of_ble_eq_true rfl⟩ rfl (Nat.le_of_ble_eq_true rfl) ⟨(show 0 + 0 ≤ (rmC S (s_add S (nI pj) (nI qj)).2) by omega), (show 0 + 0 ≤ (rmS S (s_add S (nI pj) (nI qj)).2) by omega)⟩ (c2 := 0) (s2 := 0) rfl rfl (x_asTable (some (b.1 0 (wh S pj))) 1 (Or.inr ⟨_, 0, _, rfl, (hx0.B hw_p rfl), Or.inl ⟨rfl, rfl⟩⟩)) ?_
          refine g_astore (lv' := [(4, .null), (3, .int (nI 2)), (0, .ref M), (1, .int (nI pj)), (2, .int (nI qj))]) hC dX9_add_41 (by decide) rfl (Or.inl rfl) ?_
          refine g_aload_n hC dX9_add_43 rfl 2 rfl (Or.inr ⟨_, rfl⟩) ?_
          refine g_get hC (by decide +kernel) rfl (hx0.M hM).1 (hx0.M hM).2 0 (by decide) (by decide +kernel) (Or.inl rfl) rfl dX9_add_44 ?_
          refine g_iload_n hC dX9_add_47 rfl 4 rfl ?_
          refine g_aald hC 5 rfl (hx0.Mp rfl).1 (hx0.Mp rfl).2 (qj) rfl (show qj < 10 by omega) (by decide) dX9_add_48 ?_
          refine g_val (w := .ref (b.1 4 (wh S qj))) (congrArg va_rf hp0_q) ?_
          refine g_S (As := [.ref (b.1 4 (wh S qj))]) (st := []) hC 1 dX9_add_49 gX9_add_X9_asBytes rfl (by decide +kernel) ⟨Nat.le_of_ble_eq_true rfl, Nat.le_of_ble_eq_true rfl⟩ rfl (Nat.le_of_ble_eq_true rfl) ⟨(show 0 + 0 ≤ (rmC S (s_add S (nI pj) (nI qj)).2) by omega), (show 0 + 0 ≤ (rmS S (s_add S (nI pj) (nI qj)).2) by omega)⟩ (c2 := 0) (s2 := 0) rfl rfl (x_asBytes (some (b.1 4 (wh S qj))) 3 (Or.inr ⟨_, 3, _, rfl, (hx0.W hw_q rfl), Or.inr (Or.inr (Or.inl ⟨rfl, rfl⟩))⟩)) ?_
          refine g_astore (lv' := [(5, .null), (4, .null), (3, .int (nI 2)), (0, .ref M), (1, .int (nI pj)), (2, .int (nI qj))]) hC dX9_add_52 (by decide) rfl (Or.inl rfl) ?_
          refine g_iload_n hC dX9_add_54 rfl 2 rfl ?_
          refine g_ifN_ne (a := 2) (tgt := 68) hC dX9_add_55 (by decide) (by omega) (fun h55 => ?_) (fun h55 => ?_)
          · refine g_aload_n hC dX9_add_68 rfl 3 rfl (Or.inr ⟨_, rfl⟩) ?_
            refine g_iload_n hC dX9_add_69 rfl 2 rfl ?_
            refine g_Vx (As := [.int (nI 2)]) (st := []) hC 1 dX9_add_70 rfl (hx0.M hM).1 (hx0.M hM).2 gX9_add_X9_failed rfl (by decide +kernel) ⟨Nat.le_of_ble_eq_true rfl, Nat.le_of_ble_eq_true rfl⟩ rfl (Nat.le_of_ble_eq_true rfl) ⟨(show 0 + 0 ≤ (rmC S (s_add S (nI pj) (nI qj)).2) by omega), (show 0 + 0 ≤ (rmS S (s_add S (nI pj) (nI qj)).2) by omega)⟩ (c2 := 0) (s2 := 0) rfl rfl (x_failed hx0 M hM 2) (fun v1 L1 f1 hp1 => ?_)
            obtain ⟨rfl, hx1⟩ := hp1
            show gW X vwCl 6 L1 f1 0 0 73 [(5, .null), (4, .null), (3, .int (nI 2)), (0, .ref M), (1, .int (nI pj)), (2, .int (nI qj))] [.int (fA 2)]
            have hc_p : castF S pj 4 = 2 := by unfold castF isO; rw [hk_p] <;> decide
            have hc_q : castF S qj 1 = 2 := by unfold castF isO; rw [hk_q] <;> decide
            have hbf : bthF S pj qj 1 = 2 := by unfold bthF; rw [hc_p, hc_q] <;> decide
            have hE : s_add S (nI pj) (nI qj) = (fA 2, (aSc (thS S) 1 2)) := by
              unfold s_add
              rw [if_pos h4, if_pos h11, hpl_p, hpl_q, hbf, if_pos (show 0 < 2 by decide)] <;> rfl
            refine g_widen (c2 := (rmC S (s_add S (nI pj) (nI qj)).2)) (s2 := (rmS S (s_add S (nI pj) (nI qj)).2)) (show 0 ≤ (rmC S (s_add S (nI pj) (nI qj)).2) by omega) (show 0 ≤ (rmS S (s_add S (nI pj) (nI qj)).2) by omega) ?_
            exact g_iret hC hR dX9_add_73 ⟨b, congrArg (fun z => some (Value.int (Prod.fst z))) hE.symm, by rw [hE]; exact hx1, xG.rf⟩
          · exfalso; omega
        · have hw_q : wh S qj < S.1 13 := hI.wt hqj (by omega)
          have hb_q : S.2.1 14 (wh S qj) = 0 := by have := ((hI.2.1 _ hqj).2.2.2.2.2 (by omega)).2; omega
          have hp0_q : plcF (thS S) b qj = some (b.1 6 (wh S qj)) := plc_k hqj hk_q (by decide)
          refine g_aald hC 5 rfl (hx0.Mp rfl).1 (hx0.Mp rfl).2 (qj) rfl (show qj < 10 by omega) (by decide) dX9_add_27 ?_
          refine g_val (w := .ref (b.1 6 (wh S qj))) (congrArg va_rf hp0_q) ?_
          refine g_S (As := [.ref (b.1 0 (wh S pj)), .ref (b.1 6 (wh S qj))]) (st := []) hC 2 dX9_add_28 gX9_add_X9_lookFault rfl (by decide +kernel) ⟨Nat.le_of_ble_eq_true rfl, Nat.le_of_ble_eq_true rfl⟩ rfl (Nat.le_of_ble_eq_true rfl) ⟨(show 0 + 0 ≤ (rmC S (s_add S (nI pj) (nI qj)).2) by omega), (show 0 + 0 ≤ (rmS S (s_add S (nI pj) (nI qj)).2) by omega)⟩ (c2 := 0) (s2 := 0) rfl rfl (x_lookFault (some (b.1 0 (wh S pj))) (some (b.1 6 (wh S qj))) 1 4 (Or.inr ⟨_, 0, _, rfl, (hx0.B hw_p rfl), Or.inl ⟨rfl, rfl⟩⟩) (Or.inr ⟨_, 5, _, rfl, (hx0.T hw_q rfl hb_q), Or.inr (Or.inr (Or.inr (Or.inl ⟨rfl, rfl⟩)))⟩)) ?_
          refine g_istore_n (lv' := [(3, .int (nI 2)), (0, .ref M), (1, .int (nI pj)), (2, .int (nI qj))]) hC dX9_add_31 rfl (by decide) rfl ?_
          refine g_aload_n hC dX9_add_32 rfl 1 rfl (Or.inr ⟨_, rfl⟩) ?_
          refine g_get hC (by decide +kernel) rfl (hx0.M hM).1 (hx0.M hM).2 0 (by decide) (by decide +kernel) (Or.inl rfl) rfl dX9_add_33 ?_
          refine g_iload_n hC dX9_add_36 rfl 2 rfl ?_
          refine g_aald hC 5 rfl (hx0.Mp rfl).1 (hx0.Mp rfl).2 (pj) rfl (show pj < 10 by omega) (by decide) dX9_add_37 ?_
          refine g_val (w := .ref (b.1 0 (wh S pj))) (congrArg va_rf hp0_p) ?_
          refine g_S (As := [.ref (b.1 0 (wh S pj))]) (st := []) hC 1 dX9_add_38 gX9_add_X9_asTable rfl (by decide +kernel) ⟨Nat.le_of_ble_eq_true rfl, Nat.le_of_ble_eq_true rfl⟩ rfl (Nat.le_of_ble_eq_true rfl) ⟨(show 0 + 0 ≤ (rmC S (s_add S (nI pj) (nI qj)).2) by omega), (show 0 + 0 ≤ (rmS S (s_add S (nI pj) (nI qj)).2) by omega)⟩ (c2 := 0) (s2 := 0) rfl rfl (x_asTable (some (b.1 0 (wh S pj))) 1 (Or.inr ⟨_, 0, _, rfl, (hx0.B hw_p rfl), Or.inl ⟨rfl, rfl⟩⟩)) ?_
          refine g_astore (lv' := [(4, .null), (3, .int (nI 2)), (0, .ref M), (1, .int (nI pj)), (2, .int (nI qj))]) hC dX9_add_41 (by decide) rfl (Or.inl rfl) ?_
          refine g_aload_n hC dX9_add_43 rfl 2 rfl (Or.inr ⟨_, rfl⟩) ?_
          refine g_get hC (by decide +kernel) rfl (hx0.M hM).1 (hx0.M hM).2 0 (by decide) (by decide +kernel) (Or.inl rfl) rfl dX9_add_44 ?_
          refine g_iload_n hC dX9_add_47 rfl 4 rfl ?_
          refine g_aald hC 5 rfl (hx0.Mp rfl).1 (hx0.Mp rfl).2 (qj) rfl (show qj < 10 by omega) (by decide) dX9_add_48 ?_
          refine g_val (w := .ref (b.1 6 (wh S qj))) (congrArg va_rf hp0_q) ?_
          refine g_S (As := [.ref (b.1 6 (wh S qj))]) (st := []) hC 1 dX9_add_49 gX9_add_X9_asBytes rfl (by decide +kernel) ⟨Nat.le_of_ble_eq_true rfl, Nat.le_of_ble_eq_true rfl⟩ rfl (Nat.le_of_ble_eq_true rfl) ⟨(show 0 + 0 ≤ (rmC S (s_add S (nI pj) (nI qj)).2) by omega), (show 0 + 0 ≤ (rmS S (s_add S (nI pj) (nI qj)).2) by omega)⟩ (c2 := 0) (s2 := 0) rfl rfl (x_asBytes (some (b.1 6 (wh S qj))) 4 (Or.inr ⟨_, 5, _, rfl, (hx0.T hw_q rfl hb_q), Or.inr (Or.inr (Or.inr (Or.inl ⟨rfl, rfl⟩)))⟩)) ?_
          refine g_astore (lv' := [(5, .null), (4, .null), (3, .int (nI 2)), (0, .ref M), (1, .int (nI pj)), (2, .int (nI qj))]) hC dX9_add_52 (by decide) rfl (Or.inl rfl) ?_
          refine g_iload_n hC dX9_add_54 rfl 2 rfl ?_
          refine g_ifN_ne (a := 2) (tgt := 68) hC dX9_add_55 (by decide) (by omega) (fun h55 => ?_) (fun h55 => ?_)
          · refine g_aload_n hC dX9_add_68 rfl 3 rfl (Or.inr ⟨_, rfl⟩) ?_
            refine g_iload_n hC dX9_add_69 rfl 2 rfl ?_
            refine g_Vx (As := [.int (nI 2)]) (st := []) hC 1 dX9_add_70 rfl (hx0.M hM).1 (hx0.M hM).2 gX9_add_X9_failed rfl (by decide +kernel) ⟨Nat.le_of_ble_eq_true rfl, Nat.le_of_ble_eq_true rfl⟩ rfl (Nat.le_of_ble_eq_true rfl) ⟨(show 0 + 0 ≤ (rmC S (s_add S (nI pj) (nI qj)).2) by omega), (show 0 + 0 ≤ (rmS S (s_add S (nI pj) (nI qj)).2) by omega)⟩ (c2 := 0) (s2 := 0) rfl rfl (x_failed hx0 M hM 2) (fun v1 L1 f1 hp1 => ?_)
            obtain ⟨rfl, hx1⟩ := hp1
            show gW X vwCl 6 L1 f1 0 0 73 [(5, .null), (4, .null), (3, .int (nI 2)), (0, .ref M), (1, .int (nI pj)), (2, .int (nI qj))] [.int (fA 2)]
            have hc_p : castF S pj 4 = 2 := by unfold castF isO; rw [hk_p] <;> decide
            have hc_q : castF S qj 1 = 2 := by unfold castF isO; rw [hk_q] <;> decide
            have hbf : bthF S pj qj 1 = 2 := by unfold bthF; rw [hc_p, hc_q] <;> decide
            have hE : s_add S (nI pj) (nI qj) = (fA 2, (aSc (thS S) 1 2)) := by
              unfold s_add
              rw [if_pos h4, if_pos h11, hpl_p, hpl_q, hbf, if_pos (show 0 < 2 by decide)] <;> rfl
            refine g_widen (c2 := (rmC S (s_add S (nI pj) (nI qj)).2)) (s2 := (rmS S (s_add S (nI pj) (nI qj)).2)) (show 0 ≤ (rmC S (s_add S (nI pj) (nI qj)).2) by omega) (show 0 ≤ (rmS S (s_add S (nI pj) (nI qj)).2) by omega) ?_
            exact g_iret hC hR dX9_add_73 ⟨b, congrArg (fun z => some (Value.int (Prod.fst z))) hE.symm, by rw [hE]; exact hx1, xG.rf⟩
          · exfalso; omega
        · have hw_q : wh S qj < S.1 13 := hI.wt hqj (by omega)
          have hb_q : S.2.1 14 (wh S qj) ≠ 0 := by have := ((hI.2.1 _ hqj).2.2.2.2.2 (by omega)).2; omega
          have hp0_q : plcF (thS S) b qj = some (b.1 6 (wh S qj)) := plc_k hqj hk_q (by decide)
          refine g_aald hC 5 rfl (hx0.Mp rfl).1 (hx0.Mp rfl).2 (qj) rfl (show qj < 10 by omega) (by decide) dX9_add_27 ?_
          refine g_val (w := .ref (b.1 6 (wh S qj))) (congrArg va_rf hp0_q) ?_
          refine g_S (As := [.ref (b.1 0 (wh S pj)), .ref (b.1 6 (wh S qj))]) (st := []) hC 2 dX9_add_28 gX9_add_X9_lookFault rfl (by decide +kernel) ⟨Nat.le_of_ble_eq_true rfl, Nat.le_of_ble_eq_true rfl⟩ rfl (Nat.le_of_ble_eq_true rfl) ⟨(show 0 + 0 ≤ (rmC S (s_add S (nI pj) (nI qj)).2) by omega), (show 0 + 0 ≤ (rmS S (s_add S (nI pj) (nI qj)).2) by omega)⟩ (c2 := 0) (s2 := 0) rfl rfl (x_lookFault (some (b.1 0 (wh S pj))) (some (b.1 6 (wh S qj))) 1 5 (Or.inr ⟨_, 0, _, rfl, (hx0.B hw_p rfl), Or.inl ⟨rfl, rfl⟩⟩) (Or.inr ⟨_, 1, _, rfl, (hx0.K hw_q rfl hb_q), Or.inr (Or.inr (Or.inr (Or.inr ⟨rfl, rfl⟩)))⟩)) ?_
          refine g_istore_n (lv' := [(3, .int (nI 2)), (0, .ref M), (1, .int (nI pj)), (2, .int (nI qj))]) hC dX9_add_31 rfl (by decide) rfl ?_
          refine g_aload_n hC dX9_add_32 rfl 1 rfl (Or.inr ⟨_, rfl⟩) ?_
          refine g_get hC (by decide +kernel) rfl (hx0.M hM).1 (hx0.M hM).2 0 (by decide) (by decide +kernel) (Or.inl rfl) rfl dX9_add_33 ?_
          refine g_iload_n hC dX9_add_36 rfl 2 rfl ?_
          refine g_aald hC 5 rfl (hx0.Mp rfl).1 (hx0.Mp rfl).2 (pj) rfl (show pj < 10 by omega) (by decide) dX9_add_37 ?_
          refine g_val (w := .ref (b.1 0 (wh S pj))) (congrArg va_rf hp0_p) ?_
          refine g_S (As := [.ref (b.1 0 (wh S pj))]) (st := []) hC 1 dX9_add_38 gX9_add_X9_asTable rfl (by decide +kernel) ⟨Nat.le_of_ble_eq_true rfl, Nat.le_of_ble_eq_true rfl⟩ rfl (Nat.le_of_ble_eq_true rfl) ⟨(show 0 + 0 ≤ (rmC S (s_add S (nI pj) (nI qj)).2) by omega), (show 0 + 0 ≤ (rmS S (s_add S (nI pj) (nI qj)).2) by omega)⟩ (c2 := 0) (s2 := 0) rfl rfl (x_asTable (some (b.1 0 (wh S pj))) 1 (Or.inr ⟨_, 0, _, rfl, (hx0.B hw_p rfl), Or.inl ⟨rfl, rfl⟩⟩)) ?_
          refine g_astore (lv' := [(4, .null), (3, .int (nI 2)), (0, .ref M), (1, .int (nI pj)), (2, .int (nI qj))]) hC dX9_add_41 (by decide) rfl (Or.inl rfl) ?_
          refine g_aload_n hC dX9_add_43 rfl 2 rfl (Or.inr ⟨_, rfl⟩) ?_
          refine g_get hC (by decide +kernel) rfl (hx0.M hM).1 (hx0.M hM).2 0 (by decide) (by decide +kernel) (Or.inl rfl) rfl dX9_add_44 ?_
          refine g_iload_n hC dX9_add_47 rfl 4 rfl ?_
          refine g_aald hC 5 rfl (hx0.Mp rfl).1 (hx0.Mp rfl).2 (qj) rfl (show qj < 10 by omega) (by decide) dX9_add_48 ?_
          refine g_val (w := .ref (b.1 6 (wh S qj))) (congrArg va_rf hp0_q) ?_
          refine g_S (As := [.ref (b.1 6 (wh S qj))]) (st := []) hC 1 dX9_add_49 gX9_add_X9_asBytes rfl (by decide +kernel) ⟨Nat.le_of_ble_eq_true rfl, Nat.le_of_ble_eq_true rfl⟩ rfl (Nat.le_of_ble_eq_true rfl) ⟨(show 0 + 0 ≤ (rmC S (s_add S (nI pj) (nI qj)).2) by omega), (show 0 + 0 ≤ (rmS S (s_add S (nI pj) (nI qj)).2) by omega)⟩ (c2 := 0) (s2 := 0) rfl rfl (x_asBytes (some (b.1 6 (wh S qj))) 5 (Or.inr ⟨_, 1, _, rfl, (hx0.K hw_q rfl hb_q), Or.inr (Or.inr (Or.inr (Or.inr ⟨rfl, rfl⟩)))⟩)) ?_
          refine g_astore (lv' := [(5, .null), (4, .null), (3, .int (nI 2)), (0, .ref M), (1, .int (nI pj)), (2, .int (nI qj))]) hC dX9_add_52 (by decide) rfl (Or.inl rfl) ?_
          refine g_iload_n hC dX9_add_54 rfl 2 rfl ?_
          refine g_ifN_ne (a := 2) (tgt := 68) hC dX9_add_55 (by decide) (by omega) (fun h55 => ?_) (fun h55 => ?_)
          · refine g_aload_n hC dX9_add_68 rfl 3 rfl (Or.inr ⟨_, rfl⟩) ?_
            refine g_iload_n hC dX9_add_69 rfl 2 rfl ?_
            refine g_Vx (As := [.int (nI 2)]) (st := []) hC 1 dX9_add_70 rfl (hx0.M hM).1 (hx0.M hM).2 gX9_add_X9_failed rfl (by decide +kernel) ⟨Nat.le_of_ble_eq_true rfl, Nat.le_of_ble_eq_true rfl⟩ rfl (Nat.le_of_ble_eq_true rfl) ⟨(show 0 + 0 ≤ (rmC S (s_add S (nI pj) (nI qj)).2) by omega), (show 0 + 0 ≤ (rmS S (s_add S (nI pj) (nI qj)).2) by omega)⟩ (c2 := 0) (s2 := 0) rfl rfl (x_failed hx0 M hM 2) (fun v1 L1 f1 hp1 => ?_)
            obtain ⟨rfl, hx1⟩ := hp1
            show gW X vwCl 6 L1 f1 0 0 73 [(5, .null), (4, .null), (3, .int (nI 2)), (0, .ref M), (1, .int (nI pj)), (2, .int (nI qj))] [.int (fA 2)]
            have hc_p : castF S pj 4 = 2 := by unfold castF isO; rw [hk_p] <;> decide
            have hc_q : castF S qj 1 = 2 := by unfold castF isO; rw [hk_q] <;> decide
            have hbf : bthF S pj qj 1 = 2 := by unfold bthF; rw [hc_p, hc_q] <;> decide
            have hE : s_add S (nI pj) (nI qj) = (fA 2, (aSc (thS S) 1 2)) := by
              unfold s_add
              rw [if_pos h4, if_pos h11, hpl_p, hpl_q, hbf, if_pos (show 0 < 2 by decide)] <;> rfl
            refine g_widen (c2 := (rmC S (s_add S (nI pj) (nI qj)).2)) (s2 := (rmS S (s_add S (nI pj) (nI qj)).2)) (show 0 ≤ (rmC S (s_add S (nI pj) (nI qj)).2) by omega) (show 0 ≤ (rmS S (s_add S (nI pj) (nI qj)).2) by omega) ?_
            exact g_iret hC hR dX9_add_73 ⟨b, congrArg (fun z => some (Value.int (Prod.fst z))) hE.symm, by rw [hE]; exact hx1, xG.rf⟩
          · exfalso; omega
      · have hw_p : wh S pj < S.1 7 := hI.ws hpj hk_p
        have hp0_p : plcF (thS S) b pj = some (b.1 2 (wh S pj)) := plc_k hpj hk_p (by decide)
        refine g_aald hC 5 rfl (hx0.Mp rfl).1 (hx0.Mp rfl).2 (pj) rfl (show pj < 10 by omega) (by decide) dX9_add_21 ?_
        refine g_val (w := .ref (b.1 2 (wh S pj))) (congrArg va_rf hp0_p) ?_
        refine g_aload_n hC dX9_add_22 rfl 0 rfl (Or.inr ⟨_, rfl⟩) ?_
        refine g_get hC (by decide +kernel) rfl (hx0.M hM).1 (hx0.M hM).2 0 (by decide) (by decide +kernel) (Or.inl rfl) rfl dX9_add_23 ?_
        refine g_iload_n hC dX9_add_26 rfl 2 rfl ?_
        have h5_q := hI.k5 hqj
        rcases (show kd S qj = 0 ∨ kd S qj = 1 ∨ kd S qj = 2 ∨ kd S qj = 3 ∨ kd S qj = 4 ∨ kd S qj = 5 by omega) with hk_q | hk_q | hk_q | hk_q | hk_q | hk_q
        · have hp0_q : plcF (thS S) b qj = none := plc_0 hqj hk_q
          refine g_aald hC 5 rfl (hx0.Mp rfl).1 (hx0.Mp rfl).2 (qj) rfl (show qj < 10 by omega) (by decide) dX9_add_27 ?_
          refine g_val (w := .null) (congrArg va_rf hp0_q) ?_
          refine g_S (As := [.ref (b.1 2 (wh S pj)), .null]) (st := []) hC 2 dX9_add_28 gX9_add_X9_lookFault rfl (by decide +kernel) ⟨Nat.le_of_ble_eq_true rfl, Nat.le_of_ble_eq_true rfl⟩ rfl (Nat.le_of_ble_eq_true rfl) ⟨(show 0 + 0 ≤ (rmC S (s_add S (nI pj) (nI qj)).2) by omega), (show 0 + 0 ≤ (rmS S (s_add S (nI pj) (nI qj)).2) by omega)⟩ (c2 := 0) (s2 := 0) rfl rfl (x_lookFault (some (b.1 2 (wh S pj))) none 2 0 (Or.inr ⟨_, 4, _, rfl, (hx0.G hw_p rfl), Or.inr (Or.inl ⟨rfl, rfl⟩)⟩) (Or.inl ⟨rfl, rfl⟩)) ?_
          refine g_istore_n (lv' := [(3, .int (nI 2)), (0, .ref M), (1, .int (nI pj)), (2, .int (nI qj))]) hC dX9_add_31 rfl (by decide) rfl ?_
          refine g_aload_n hC dX9_add_32 rfl 1 rfl (Or.inr ⟨_, rfl⟩) ?_
          refine g_get hC (by decide +kernel) rfl (hx0.M hM).1 (hx0.M hM).2 0 (by decide) (by decide +kernel) (Or.inl rfl) rfl dX9_add_33 ?_
          refine g_iload_n hC dX9_add_36 rfl 2 rfl ?_
          refine g_aald hC 5 rfl (hx0.Mp rfl).1 (hx0.Mp rfl).2 (pj) rfl (show pj < 10 by omega) (by decide) dX9_add_37 ?_
          refine g_val (w := .ref (b.1 2 (wh S pj))) (congrArg va_rf hp0_p) ?_
          refine g_S (As := [.ref (b.1 2 (wh S pj))]) (st := []) hC 1 dX9_add_38 gX9_add_X9_asTable rfl (by decide +kernel) ⟨Nat.le_of_ble_eq_true rfl, Nat.le_of_ble_eq_true rfl⟩ rfl (Nat.le_of_ble_eq_true rfl) ⟨(show 0 + 0 ≤ (rmC S (s_add S (nI pj) (nI qj)).2) by omega), (show 0 + 0 ≤ (rmS S (s_add S (nI pj) (nI qj)).2) by omega)⟩ (c2 := 0) (s2 := 0) rfl rfl (x_asTable (some (b.1 2 (wh S pj))) 2 (Or.inr ⟨_, 4, _, rfl, (hx0.G hw_p rfl), Or.inr (Or.inl ⟨rfl, rfl⟩)⟩)) ?_
          refine g_astore (lv' := [(4, .null), (3, .int (nI 2)), (0, .ref M), (1, .int (nI pj)), (2, .int (nI qj))]) hC dX9_add_41 (by decide) rfl (Or.inl rfl) ?_
          refine g_aload_n hC dX9_add_43 rfl 2 rfl (Or.inr ⟨_, rfl⟩) ?_
          refine g_get hC (by decide +kernel) rfl (hx0.M hM).1 (hx0.M hM).2 0 (by decide) (by decide +kernel) (Or.inl rfl) rfl dX9_add_44 ?_
          refine g_iload_n hC dX9_add_47 rfl 4 rfl ?_
          refine g_aald hC 5 rfl (hx0.Mp rfl).1 (hx0.Mp rfl).2 (qj) rfl (show qj < 10 by omega) (by decide) dX9_add_48 ?_
          refine g_val (w := .null) (congrArg va_rf hp0_q) ?_
          refine g_S (As := [.null]) (st := []) hC 1 dX9_add_49 gX9_add_X9_asBytes rfl (by decide +kernel) ⟨Nat.le_of_ble_eq_true rfl, Nat.le_of_ble_eq_true rfl⟩ rfl (Nat.le_of_ble_eq_true rfl) ⟨(show 0 + 0 ≤ (rmC S (s_add S (nI pj) (nI qj)).2) by omega), (show 0 + 0 ≤ (rmS S (s_add S (nI pj) (nI qj)).2) by omega)⟩ (c2 := 0) (s2 := 0) rfl rfl (x_asBytes none 0 (Or.inl ⟨rfl, rfl⟩)) ?_
          refine g_astore (lv' := [(5, .null), (4, .null), (3, .int (nI 2)), (0, .ref M), (1, .int (nI pj)), (2, .int (nI qj))]) hC dX9_add_52 (by decide) rfl (Or.inl rfl) ?_
          refine g_iload_n hC dX9_add_54 rfl 2 rfl ?_
          refine g_ifN_ne (a := 2) (tgt := 68) hC dX9_add_55 (by decide) (by omega) (fun h55 => ?_) (fun h55 => ?_)
          · refine g_aload_n hC dX9_add_68 rfl 3 rfl (Or.inr ⟨_, rfl⟩) ?_
            refine g_iload_n hC dX9_add_69 rfl 2 rfl ?_
            refine g_Vx (As := [.int (nI 2)]) (st := []) hC 1 dX9_add_70 rfl (hx0.M hM).1 (hx0.M hM).2 gX9_add_X9_failed rfl (by decide +kernel) ⟨Nat.le_of_ble_eq_true rfl, Nat.le_of_ble_eq_true rfl⟩ rfl (Nat.le_of_ble_eq_true rfl) ⟨(show 0 + 0 ≤ (rmC S (s_add S (nI pj) (nI qj)).2) by omega), (show 0 + 0 ≤ (rmS S (s_add S (nI pj) (nI qj)).2) by omega)⟩ (c2 := 0) (s2 := 0) rfl rfl (x_failed hx0 M hM 2) (fun v1 L1 f1 hp1 => ?_)
            obtain ⟨rfl, hx1⟩ := hp1
            show gW X vwCl 6 L1 f1 0 0 73 [(5, .null), (4, .null), (3, .int (nI 2)), (0, .ref M), (1, .int (nI pj)), (2, .int (nI qj))] [.int (fA 2)]
            have hc_p : castF S pj 4 = 2 := by unfold castF isO; rw [hk_p] <;> decide
            have hc_q : castF S qj 1 = 1 := by unfold castF isO; rw [hk_q] <;> decide
            have hbf : bthF S pj qj 1 = 2 := by unfold bthF; rw [hc_p, hc_q] <;> decide
            have hE : s_add S (nI pj) (nI qj) = (fA 2, (aSc (thS S) 1 2)) := by
              unfold s_add
              rw [if_pos h4, if_pos h11, hpl_p, hpl_q, hbf, if_pos (show 0 < 2 by decide)] <;> rfl
            refine g_widen (c2 := (rmC S (s_add S (nI pj) (nI qj)).2)) (s2 := (rmS S (s_add S (nI pj) (nI qj)).2)) (show 0 ≤ (rmC S (s_add S (nI pj) (nI qj)).2) by omega) (show 0 ≤ (rmS S (s_add S (nI pj) (nI qj)).2) by omega) ?_
            exact g_iret hC hR dX9_add_73 ⟨b, congrArg (fun z => some (Value.int (Prod.fst z))) hE.symm, by rw [hE]; exact hx1, xG.rf⟩
          · exfalso; omega
        · have hw_q : wh S qj < S.1 4 := hI.wl hqj hk_q
          have hp0_q : plcF (thS S) b qj = some (b.1 0 (wh S qj)) := plc_k hqj hk_q (by decide)
          refine g_aald hC 5 rfl (hx0.Mp rfl).1 (hx0.Mp rfl).2 (qj) rfl (show qj < 10 by omega) (by decide) dX9_add_27 ?_
          refine g_val (w := .ref (b.1 0 (wh S qj))) (congrArg va_rf hp0_q) ?_
          refine g_S (As := [.ref (b.1 2 (wh S pj)), .ref (b.1 0 (wh S qj))]) (st := []) hC 2 dX9_add_28 gX9_add_X9_lookFault rfl (by decide +kernel) ⟨Nat.le_of_ble_eq_true rfl, Nat.le_of_ble_eq_true rfl⟩ rfl (Nat.le_of_ble_eq_true rfl) ⟨(show 0 + 0 ≤ (rmC S (s_add S (nI pj) (nI qj)).2) by omega), (show 0 + 0 ≤ (rmS S (s_add S (nI pj) (nI qj)).2) by omega)⟩ (c2 := 0) (s2 := 0) rfl rfl (x_lookFault (some (b.1 2 (wh S pj))) (some (b.1 0 (wh S qj))) 2 1 (Or.inr ⟨_, 4, _, rfl, (hx0.G hw_p rfl), Or.inr (Or.inl ⟨rfl, rfl⟩)⟩) (Or.inr ⟨_, 0, _, rfl, (hx0.B hw_q rfl), Or.inl ⟨rfl, rfl⟩⟩)) ?_
          refine g_istore_n (lv' := [(3, .int (nI 2)), (0, .ref M), (1, .int (nI pj)), (2, .int (nI qj))]) hC dX9_add_31 rfl (by decide) rfl ?_
          refine g_aload_n hC dX9_add_32 rfl 1 rfl (Or.inr ⟨_, rfl⟩) ?_
          refine g_get hC (by decide +kernel) rfl (hx0.M hM).1 (hx0.M hM).2 0 (by decide) (by decide +kernel) (Or.inl rfl) rfl dX9_add_33 ?_
          refine g_iload_n hC dX9_add_36 rfl 2 rfl ?_
          refine g_aald hC 5 rfl (hx0.Mp rfl).1 (hx0.Mp rfl).2 (pj) rfl (show pj < 10 by omega) (by decide) dX9_add_37 ?_
          refine g_val (w := .ref (b.1 2 (wh S pj))) (congrArg va_rf hp0_p) ?_
          refine g_S (As := [.ref (b.1 2 (wh S pj))]) (st := []) hC 1 dX9_add_38 gX9_add_X9_asTable rfl (by decide +kernel) ⟨Nat.le_of_ble_eq_true rfl, Nat.le_of_ble_eq_true rfl⟩ rfl (Nat.le_of_ble_eq_true rfl) ⟨(show 0 + 0 ≤ (rmC S (s_add S (nI pj) (nI qj)).2) by omega), (show 0 + 0 ≤ (rmS S (s_add S (nI pj) (nI qj)).2) by omega)⟩ (c2 := 0) (s2 := 0) rfl rfl (x_asTable (some (b.1 2 (wh S pj))) 2 (Or.inr ⟨_, 4, _, rfl, (hx0.G hw_p rfl), Or.inr (Or.inl ⟨rfl, rfl⟩)⟩)) ?_
          refine g_astore (lv' := [(4, .null), (3, .int (nI 2)), (0, .ref M), (1, .int (nI pj)), (2, .int (nI qj))]) hC dX9_add_41 (by decide) rfl (Or.inl rfl) ?_
          refine g_aload_n hC dX9_add_43 rfl 2 rfl (Or.inr ⟨_, rfl⟩) ?_
          refine g_get hC (by decide +kernel) rfl (hx0.M hM).1 (hx0.M hM).2 0 (by decide) (by decide +kernel) (Or.inl rfl) rfl dX9_add_44 ?_
          refine g_iload_n hC dX9_add_47 rfl 4 rfl ?_
          refine g_aald hC 5 rfl (hx0.Mp rfl).1 (hx0.Mp rfl).2 (qj) rfl (show qj < 10 by omega) (by decide) dX9_add_48 ?_
          refine g_val (w := .ref (b.1 0 (wh S qj))) (congrArg va_rf hp0_q) ?_
          refine g_S (As := [.ref (b.1 0 (wh S qj))]) (st := []) hC 1 dX9_add_49 gX9_add_X9_asBytes rfl (by decide +kernel) ⟨Nat.le_of_ble_eq_true rfl, Nat.le_of_ble_eq_true rfl⟩ rfl (Nat.le_of_ble_eq_true rfl) ⟨(show 0 + 0 ≤ (rmC S (s_add S (nI pj) (nI qj)).2) by omega), (show 0 + 0 ≤ (rmS S (s_add S (nI pj) (nI qj)).2) by omega)⟩ (c2 := 0) (s2 := 0) rfl rfl (x_asBytes (some (b.1 0 (wh S qj))) 1 (Or.inr ⟨_, 0, _, rfl, (hx0.B hw_q rfl), Or.inl ⟨rfl, rfl⟩⟩)) ?_
          refine g_astore (lv' := [(5, .ref (b.1 0 (wh S qj))), (4, .null), (3, .int (nI 2)), (0, .ref M), (1, .int (nI pj)), (2, .int (nI qj))]) hC dX9_add_52 (by decide) rfl (Or.inr ⟨_, rfl⟩) ?_
          refine g_iload_n hC dX9_add_54 rfl 2 rfl ?_
          refine g_ifN_ne (a := 2) (tgt := 68) hC dX9_add_55 (by decide) (by omega) (fun h55 => ?_) (fun h55 => ?_)
          · refine g_aload_n hC dX9_add_68 rfl 3 rfl (Or.inr ⟨_, rfl⟩) ?_
            refine g_iload_n hC dX9_add_69 rfl 2 rfl ?_
            refine g_Vx (As := [.int (nI 2)]) (st := []) hC 1 dX9_add_70 rfl (hx0.M hM).1 (hx0.M hM).2 gX9_add_X9_failed rfl (by decide +kernel) ⟨Nat.le_of_ble_eq_true rfl, Nat.le_of_ble_eq_true rfl⟩ rfl (Nat.le_of_ble_eq_true rfl) ⟨(show 0 + 0 ≤ (rmC S (s_add S (nI pj) (nI qj)).2) by omega), (show 0 + 0 ≤ (rmS S (s_add S (nI pj) (nI qj)).2) by omega)⟩ (c2 := 0) (s2 := 0) rfl rfl (x_failed hx0 M hM 2) (fun v1 L1 f1 hp1 => ?_)
            obtain ⟨rfl, hx1⟩ := hp1
            show gW X vwCl 6 L1 f1 0 0 73 [(5, .ref (b.1 0 (wh S qj))), (4, .null), (3, .int (nI 2)), (0, .ref M), (1, .int (nI pj)), (2, .int (nI qj))] [.int (fA 2)]
            have hc_p : castF S pj 4 = 2 := by unfold castF isO; rw [hk_p] <;> decide
            have hc_q : castF S qj 1 = 0 := by unfold castF isO; rw [hk_q] <;> decide
            have hbf : bthF S pj qj 1 = 2 := by unfold bthF; rw [hc_p, hc_q] <;> decide
            have hE : s_add S (nI pj) (nI qj) = (fA 2, (aSc (thS S) 1 2)) := by
              unfold s_add
              rw [if_pos h4, if_pos h11, hpl_p, hpl_q, hbf, if_pos (show 0 < 2 by decide)] <;> rfl
            refine g_widen (c2 := (rmC S (s_add S (nI pj) (nI qj)).2)) (s2 := (rmS S (s_add S (nI pj) (nI qj)).2)) (show 0 ≤ (rmC S (s_add S (nI pj) (nI qj)).2) by omega) (show 0 ≤ (rmS S (s_add S (nI pj) (nI qj)).2) by omega) ?_
            exact g_iret hC hR dX9_add_73 ⟨b, congrArg (fun z => some (Value.int (Prod.fst z))) hE.symm, by rw [hE]; exact hx1, xG.rf⟩
          · exfalso; omega
        · have hw_q : wh S qj < S.1 7 := hI.ws hqj hk_q
          have hp0_q : plcF (thS S) b qj = some (b.1 2 (wh S qj)) := plc_k hqj hk_q (by decide)
          refine g_aald hC 5 rfl (hx0.Mp rfl).1 (hx0.Mp rfl).2 (qj) rfl (show qj < 10 by omega) (by decide) dX9_add_27 ?_
          refine g_val (w := .ref (b.1 2 (wh S qj))) (congrArg va_rf hp0_q) ?_
          refine g_S (As := [.ref (b.1 2 (wh S pj)), .ref (b.1 2 (wh S qj))]) (st := []) hC 2 dX9_add_28 gX9_add_X9_lookFault rfl (by decide +kernel) ⟨Nat.le_of_ble_eq_true rfl, Nat.le_of_ble_eq_true rfl⟩ rfl (Nat.le_of_ble_eq_true rfl) ⟨(show 0 + 0 ≤ (rmC S (s_add S (nI pj) (nI qj)).2) by omega), (show 0 + 0 ≤ (rmS S (s_add S (nI pj) (nI qj)).2) by omega)⟩ (c2 := 0) (s2 := 0) rfl rfl (x_lookFault (some (b.1 2 (wh S pj))) (some (b.1 2 (wh S qj))) 2 2 (Or.inr ⟨_, 4, _, rfl, (hx0.G hw_p rfl), Or.inr (Or.inl ⟨rfl, rfl⟩)⟩) (Or.inr ⟨_, 4, _, rfl, (hx0.G hw_q rfl), Or.inr (Or.inl ⟨rfl, rfl⟩)⟩)) ?_
          refine g_istore_n (lv' := [(3, .int (nI 2)), (0, .ref M), (1, .int (nI pj)), (2, .int (nI qj))]) hC dX9_add_31 rfl (by decide) rfl ?_
          refine g_aload_n hC dX9_add_32 rfl 1 rfl (Or.inr ⟨_, rfl⟩) ?_
          refine g_get hC (by decide +kernel) rfl (hx0.M hM).1 (hx0.M hM).2 0 (by decide) (by decide +kernel) (Or.inl rfl) rfl dX9_add_33 ?_
          refine g_iload_n hC dX9_add_36 rfl 2 rfl ?_
          refine g_aald hC 5 rfl (hx0.Mp rfl).1 (hx0.Mp rfl).2 (pj) rfl (show pj < 10 by omega) (by decide) dX9_add_37 ?_
          refine g_val (w := .ref (b.1 2 (wh S pj))) (congrArg va_rf hp0_p) ?_
          refine g_S (As := [.ref (b.1 2 (wh S pj))]) (st := []) hC 1 dX9_add_38 gX9_add_X9_asTable rfl (by decide +kernel) ⟨Nat.le_of_ble_eq_true rfl, Nat.le_of_ble_eq_true rfl⟩ rfl (Nat.le_of_ble_eq_true rfl) ⟨(show 0 + 0 ≤ (rmC S (s_add S (nI pj) (nI qj)).2) by omega), (show 0 + 0 ≤ (rmS S (s_add S (nI pj) (nI qj)).2) by omega)⟩ (c2 := 0) (s2 := 0) rfl rfl (x_asTable (some (b.1 2 (wh S pj))) 2 (Or.inr ⟨_, 4, _, rfl, (hx0.G hw_p rfl), Or.inr (Or.inl ⟨rfl, rfl⟩)⟩)) ?_
          refine g_astore (lv' := [(4, .null), (3, .int (nI 2)), (0, .ref M), (1, .int (nI pj)), (2, .int (nI qj))]) hC dX9_add_41 (by decide) rfl (Or.inl rfl) ?_
          refine g_aload_n hC dX9_add_43 rfl 2 rfl (Or.inr ⟨_, rfl⟩) ?_
          refine g_get hC (by decide +kernel) rfl (hx0.M hM).1 (hx0.M hM).2 0 (by decide) (by decide +kernel) (Or.inl rfl) rfl dX9_add_44 ?_
          refine g_iload_n hC dX9_add_47 rfl 4 rfl ?_
          refine g_aald hC 5 rfl (hx0.Mp rfl).1 (hx0.Mp rfl).2 (qj) rfl (show qj < 10 by omega) (by decide) dX9_add_48 ?_
          refine g_val (w := .ref (b.1 2 (wh S qj))) (congrArg va_rf hp0_q) ?_
          refine g_S (As := [.ref (b.1 2 (wh S qj))]) (st := []) hC 1 dX9_add_49 gX9_add_X9_asBytes rfl (by decide +kernel) ⟨Nat.le_of_ble_eq_true rfl, Nat.le_of_ble_eq_true rfl⟩ rfl (Nat.le_of_ble_eq_true rfl) ⟨(show 0 + 0 ≤ (rmC S (s_add S (nI pj) (nI qj)).2) by omega), (show 0 + 0 ≤ (rmS S (s_add S (nI pj) (nI qj)).2) by omega)⟩ (c2 := 0) (s2 := 0) rfl rfl (x_asBytes (some (b.1 2 (wh S qj))) 2 (Or.inr ⟨_, 4, _, rfl, (hx0.G hw_q rfl), Or.inr (Or.inl ⟨rfl, rfl⟩)⟩)) ?_
          refine g_astore (lv' := [(5, .null), (4, .null), (3, .int (nI 2)), (0, .ref M), (1, .int (nI pj)), (2, .int (nI qj))]) hC dX9_add_52 (by decide) rfl (Or.inl rfl) ?_
          refine g_iload_n hC dX9_add_54 rfl 2 rfl ?_
          refine g_ifN_ne (a := 2) (tgt := 68) hC dX9_add_55 (by decide) (by omega) (fun h55 => ?_) (fun h55 => ?_)
          · refine g_aload_n hC dX9_add_68 rfl 3 rfl (Or.inr ⟨_, rfl⟩) ?_
            refine g_iload_n hC dX9_add_69 rfl 2 rfl ?_
            refine g_Vx (As := [.int (nI 2)]) (st := []) hC 1 dX9_add_70 rfl (hx0.M hM).1 (hx0.M hM).2 gX9_add_X9_failed rfl (by decide +kernel) ⟨Nat.le_of_ble_eq_true rfl, Nat.le_of_ble_eq_true rfl⟩ rfl (Nat.le_of_ble_eq_true rfl) ⟨(show 0 + 0 ≤ (rmC S (s_add S (nI pj) (nI qj)).2) by omega), (show 0 + 0 ≤ (rmS S (s_add S (nI pj) (nI qj)).2) by omega)⟩ (c2 := 0) (s2 := 0) rfl rfl (x_failed hx0 M hM 2) (fun v1 L1 f1 hp1 => ?_)
            obtain ⟨rfl, hx1⟩ := hp1
            show gW X vwCl 6 L1 f1 0 0 73 [(5, .null), (4, .null), (3, .int (nI 2)), (0, .ref M), (1, .int (nI pj)), (2, .int (nI qj))] [.int (fA 2)]
            have hc_p : castF S pj 4 = 2 := by unfold castF isO; rw [hk_p] <;> decide
            have hc_q : castF S qj 1 = 2 := by unfold castF isO; rw [hk_q] <;> decide
            have hbf : bthF S pj qj 1 = 2 := by unfold bthF; rw [hc_p, hc_q] <;> decide
            have hE : s_add S (nI pj) (nI qj) = (fA 2, (aSc (thS S) 1 2)) := by
              unfold s_add
              rw [if_pos h4, if_pos h11, hpl_p, hpl_q, hbf, if_pos (show 0 < 2 by decide)] <;> rfl
            refine g_widen (c2 := (rmC S (s_add S (nI pj) (nI qj)).2)) (s2 := (rmS S (s_add S (nI pj) (nI qj)).2)) (show 0 ≤ (rmC S (s_add S (nI pj) (nI qj)).2) by omega) (show 0 ≤ (rmS S (s_add S (nI pj) (nI qj)).2) by omega) ?_
            exact g_iret hC hR dX9_add_73 ⟨b, congrArg (fun z => some (Value.int (Prod.fst z))) hE.symm, by rw [hE]; exact hx1, xG.rf⟩
          · exfalso; omega
        · have hw_q : wh S qj < S.1 10 := hI.wr hqj hk_q
          have hp0_q : plcF (thS S) b qj = some (b.1 4 (wh S qj)) := plc_k hqj hk_q (by decide)
          refine g_aald hC 5 rfl (hx0.Mp rfl).1 (hx0.Mp rfl).2 (qj) rfl (show qj < 10 by omega) (by decide) dX9_add_27 ?_
          refine g_val (w := .ref (b.1 4 (wh S qj))) (congrArg va_rf hp0_q) ?_
          refine g_S (As := [.ref (b.1 2 (wh S pj)), .ref (b.1 4 (wh S qj))]) (st := []) hC 2 dX9_add_28 gX9_add_X9_lookFault rfl (by decide +kernel) ⟨Nat.le_of_ble_eq_true rfl, Nat.le_of_ble_eq_true rfl⟩ rfl (Nat.le_of_ble_eq_true rfl) ⟨(show 0 + 0 ≤ (rmC S (s_add S (nI pj) (nI qj)).2) by omega), (show 0 + 0 ≤ (rmS S (s_add S (nI pj) (nI qj)).2) by omega)⟩ (c2 := 0) (s2 := 0) rfl rfl (x_lookFault (some (b.1 2 (wh S pj))) (some (b.1 4 (wh S qj))) 2 3 (Or.inr ⟨_, 4, _, rfl, (hx0.G hw_p rfl), Or.inr (Or.inl ⟨rfl, rfl⟩)⟩) (Or.inr ⟨_, 3, _, rfl, (hx0.W hw_q rfl), Or.inr (Or.inr (Or.inl ⟨rfl, rfl⟩))⟩)) ?_
          refine g_istore_n (lv' := [(3, .int (nI 2)), (0, .ref M), (1, .int (nI pj)), (2, .int (nI qj))]) hC dX9_add_31 rfl (by decide) rfl ?_
          refine g_aload_n hC dX9_add_32 rfl 1 rfl (Or.inr ⟨_, rfl⟩) ?_
          refine g_get hC (by decide +kernel) rfl (hx0.M hM).1 (hx0.M hM).2 0 (by decide) (by decide +kernel) (Or.inl rfl) rfl dX9_add_33 ?_
          refine g_iload_n hC dX9_add_36 rfl 2 rfl ?_
          refine g_aald hC 5 rfl (hx0.Mp rfl).1 (hx0.Mp rfl).2 (pj) rfl (show pj < 10 by omega) (by decide) dX9_add_37 ?_
          refine g_val (w := .ref (b.1 2 (wh S pj))) (congrArg va_rf hp0_p) ?_
          refine g_S (As := [.ref (b.1 2 (wh S pj))]) (st := []) hC 1 dX9_add_38 gX9_add_X9_asTable rfl (by decide +kernel) ⟨Nat.le_of_ble_eq_true rfl, Nat.le_of_ble_eq_true rfl⟩ rfl (Nat.le_of_ble_eq_true rfl) ⟨(show 0 + 0 ≤ (rmC S (s_add S (nI pj) (nI qj)).2) by omega), (show 0 + 0 ≤ (rmS S (s_add S (nI pj) (nI qj)).2) by omega)⟩ (c2 := 0) (s2 := 0) rfl rfl (x_asTable (some (b.1 2 (wh S pj))) 2 (Or.inr ⟨_, 4, _, rfl, (hx0.G hw_p rfl), Or.inr (Or.inl ⟨rfl, rfl⟩)⟩)) ?_
          refine g_astore (lv' := [(4, .null), (3, .int (nI 2)), (0, .ref M), (1, .int (nI pj)), (2, .int (nI qj))]) hC dX9_add_41 (by decide) rfl (Or.inl rfl) ?_
          refine g_aload_n hC dX9_add_43 rfl 2 rfl (Or.inr ⟨_, rfl⟩) ?_
          refine g_get hC (by decide +kernel) rfl (hx0.M hM).1 (hx0.M hM).2 0 (by decide) (by decide +kernel) (Or.inl rfl) rfl dX9_add_44 ?_
          refine g_iload_n hC dX9_add_47 rfl 4 rfl ?_
          refine g_aald hC 5 rfl (hx0.Mp rfl).1 (hx0.Mp rfl).2 (qj) rfl (show qj < 10 by omega) (by decide) dX9_add_48 ?_
          refine g_val (w := .ref (b.1 4 (wh S qj))) (congrArg va_rf hp0_q) ?_
          refine g_S (As := [.ref (b.1 4 (wh S qj))]) (st := []) hC 1 dX9_add_49 gX9_add_X9_asBytes rfl (by decide +kernel) ⟨Nat.le_of_ble_eq_true rfl, Nat.le_of_ble_eq_true rfl⟩ rfl (Nat.le_of_ble_eq_true rfl) ⟨(show 0 + 0 ≤ (rmC S (s_add S (nI pj) (nI qj)).2) by omega), (show 0 + 0 ≤ (rmS S (s_add S (nI pj) (nI qj)).2) by omega)⟩ (c2 := 0) (s2 := 0) rfl rfl (x_asBytes (some (b.1 4 (wh S qj))) 3 (Or.inr ⟨_, 3, _, rfl, (hx0.W hw_q rfl), Or.inr (Or.inr (Or.inl ⟨rfl, rfl⟩))⟩)) ?_
          refine g_astore (lv' := [(5, .null), (4, .null), (3, .int (nI 2)), (0, .ref M), (1, .int (nI pj)), (2, .int (nI qj))]) hC dX9_add_52 (by decide) rfl (Or.inl rfl) ?_
          refine g_iload_n hC dX9_add_54 rfl 2 rfl ?_
          refine g_ifN_ne (a := 2) (tgt := 68) hC dX9_add_55 (by decide) (by omega) (fun h55 => ?_) (fun h55 => ?_)
          · refine g_aload_n hC dX9_add_68 rfl 3 rfl (Or.inr ⟨_, rfl⟩) ?_
            refine g_iload_n hC dX9_add_69 rfl 2 rfl ?_
            refine g_Vx (As := [.int (nI 2)]) (st := []) hC 1 dX9_add_70 rfl (hx0.M hM).1 (hx0.M hM).2 gX9_add_X9_failed rfl (by decide +kernel) ⟨Nat.le_of_ble_eq_true rfl, Nat.le_of_ble_eq_true rfl⟩ rfl (Nat.le_of_ble_eq_true rfl) ⟨(show 0 + 0 ≤ (rmC S (s_add S (nI pj) (nI qj)).2) by omega), (show 0 + 0 ≤ (rmS S (s_add S (nI pj) (nI qj)).2) by omega)⟩ (c2 := 0) (s2 := 0) rfl rfl (x_failed hx0 M hM 2) (fun v1 L1 f1 hp1 => ?_)
            obtain ⟨rfl, hx1⟩ := hp1
            show gW X vwCl 6 L1 f1 0 0 73 [(5, .null), (4, .null), (3, .int (nI 2)), (0, .ref M), (1, .int (nI pj)), (2, .int (nI qj))] [.int (fA 2)]
            have hc_p : castF S pj 4 = 2 := by unfold castF isO; rw [hk_p] <;> decide
            have hc_q : castF S qj 1 = 2 := by unfold castF isO; rw [hk_q] <;> decide
            have hbf : bthF S pj qj 1 = 2 := by unfold bthF; rw [hc_p, hc_q] <;> decide
            have hE : s_add S (nI pj) (nI qj) = (fA 2, (aSc (thS S) 1 2)) := by
              unfold s_add
              rw [if_pos h4, if_pos h11, hpl_p, hpl_q, hbf, if_pos (show 0 < 2 by decide)] <;> rfl
            refine g_widen (c2 := (rmC S (s_add S (nI pj) (nI qj)).2)) (s2 := (rmS S (s_add S (nI pj) (nI qj)).2)) (show 0 ≤ (rmC S (s_add S (nI pj) (nI qj)).2) by omega) (show 0 ≤ (rmS S (s_add S (nI pj) (nI qj)).2) by omega) ?_
            exact g_iret hC hR dX9_add_73 ⟨b, congrArg (fun z => some (Value.int (Prod.fst z))) hE.symm, by rw [hE]; exact hx1, xG.rf⟩
          · exfalso; omega
        · have hw_q : wh S qj < S.1 13 := hI.wt hqj (by omega)
          have hb_q : S.2.1 14 (wh S qj) = 0 := by have := ((hI.2.1 _ hqj).2.2.2.2.2 (by omega)).2; omega
          have hp0_q : plcF (thS S) b qj = some (b.1 6 (wh S qj)) := plc_k hqj hk_q (by decide)
          refine g_aald hC 5 rfl (hx0.Mp rfl).1 (hx0.Mp rfl).2 (qj) rfl (show qj < 10 by omega) (by decide) dX9_add_27 ?_
          refine g_val (w := .ref (b.1 6 (wh S qj))) (congrArg va_rf hp0_q) ?_
          refine g_S (As := [.ref (b.1 2 (wh S pj)), .ref (b.1 6 (wh S qj))]) (st := []) hC 2 dX9_add_28 gX9_add_X9_lookFault rfl (by decide +kernel) ⟨Nat.le_of_ble_eq_true rfl, Nat.le_of_ble_eq_true rfl⟩ rfl (Nat.le_of_ble_eq_true rfl) ⟨(show 0 + 0 ≤ (rmC S (s_add S (nI pj) (nI qj)).2) by omega), (show 0 + 0 ≤ (rmS S (s_add S (nI pj) (nI qj)).2) by omega)⟩ (c2 := 0) (s2 := 0) rfl rfl (x_lookFault (some (b.1 2 (wh S pj))) (some (b.1 6 (wh S qj))) 2 4 (Or.inr ⟨_, 4, _, rfl, (hx0.G hw_p rfl), Or.inr (Or.inl ⟨rfl, rfl⟩)⟩) (Or.inr ⟨_, 5, _, rfl, (hx0.T hw_q rfl hb_q), Or.inr (Or.inr (Or.inr (Or.inl ⟨rfl, rfl⟩)))⟩)) ?_
          refine g_istore_n (lv' := [(3, .int (nI 2)), (0, .ref M), (1, .int (nI pj)), (2, .int (nI qj))]) hC dX9_add_31 rfl (by decide) rfl ?_
          refine g_aload_n hC dX9_add_32 rfl 1 rfl (Or.inr ⟨_, rfl⟩) ?_
          refine g_get hC (by decide +kernel) rfl (hx0.M hM).1 (hx0.M hM).2 0 (by decide) (by decide +kernel) (Or.inl rfl) rfl dX9_add_33 ?_
          refine g_iload_n hC dX9_add_36 rfl 2 rfl ?_
          refine g_aald hC 5 rfl (hx0.Mp rfl).1 (hx0.Mp rfl).2 (pj) rfl (show pj < 10 by omega) (by decide) dX9_add_37 ?_
          refine g_val (w := .ref (b.1 2 (wh S pj))) (congrArg va_rf hp0_p) ?_
          refine g_S (As := [.ref (b.1 2 (wh S pj))]) (st := []) hC 1 dX9_add_38 gX9_add_X9_asTable rfl (by decide +kernel) ⟨Nat.le_of_ble_eq_true rfl, Nat.le_of_ble_eq_true rfl⟩ rfl (Nat.le_of_ble_eq_true rfl) ⟨(show 0 + 0 ≤ (rmC S (s_add S (nI pj) (nI qj)).2) by omega), (show 0 + 0 ≤ (rmS S (s_add S (nI pj) (nI qj)).2) by omega)⟩ (c2 := 0) (s2 := 0) rfl rfl (x_asTable (some (b.1 2 (wh S pj))) 2 (Or.inr ⟨_, 4, _, rfl, (hx0.G hw_p rfl), Or.inr (Or.inl ⟨rfl, rfl⟩)⟩)) ?_
          refine g_astore (lv' := [(4, .null), (3, .int (nI 2)), (0, .ref M), (1, .int (nI pj)), (2, .int (nI qj))]) hC dX9_add_41 (by decide) rfl (Or.inl rfl) ?_
          refine g_aload_n hC dX9_add_43 rfl 2 rfl (Or.inr ⟨_, rfl⟩) ?_
          refine g_get hC (by decide +kernel) rfl (hx0.M hM).1 (hx0.M hM).2 0 (by decide) (by decide +kernel) (Or.inl rfl) rfl dX9_add_44 ?_
          refine g_iload_n hC dX9_add_47 rfl 4 rfl ?_
          refine g_aald hC 5 rfl (hx0.Mp rfl).1 (hx0.Mp rfl).2 (qj) rfl (show qj < 10 by omega) (by decide) dX9_add_48 ?_
          refine g_val (w := .ref (b.1 6 (wh S qj))) (congrArg va_rf hp0_q) ?_
          refine g_S (As := [.ref (b.1 6 (wh S qj))]) (st := []) hC 1 dX9_add_49 gX9_add_X9_asBytes rfl (by decide +kernel) ⟨Nat.le_of_ble_eq_true rfl, Nat.le_of_ble_eq_true rfl⟩ rfl (Nat.le_of_ble_eq_true rfl) ⟨(show 0 + 0 ≤ (rmC S (s_add S (nI pj) (nI qj)).2) by omega), (show 0 + 0 ≤ (rmS S (s_add S (nI pj) (nI qj)).2) by omega)⟩ (c2 := 0) (s2 := 0) rfl rfl (x_asBytes (some (b.1 6 (wh S qj))) 4 (Or.inr ⟨_, 5, _, rfl, (hx0.T hw_q rfl hb_q), Or.inr (Or.inr (Or.inr (Or.inl ⟨rfl, rfl⟩)))⟩)) ?_
          refine g_astore (lv' := [(5, .null), (4, .null), (3, .int (nI 2)), (0, .ref M), (1, .int (nI pj)), (2, .int (nI qj))]) hC dX9_add_52 (by decide) rfl (Or.inl rfl) ?_
          refine g_iload_n hC dX9_add_54 rfl 2 rfl ?_
          refine g_ifN_ne (a := 2) (tgt := 68) hC dX9_add_55 (by decide) (by omega) (fun h55 => ?_) (fun h55 => ?_)
          · refine g_aload_n hC dX9_add_68 rfl 3 rfl (Or.inr ⟨_, rfl⟩) ?_
            refine g_iload_n hC dX9_add_69 rfl 2 rfl ?_
            refine g_Vx (As := [.int (nI 2)]) (st := []) hC 1 dX9_add_70 rfl (hx0.M hM).1 (hx0.M hM).2 gX9_add_X9_failed rfl (by decide +kernel) ⟨Nat.le_of_ble_eq_true rfl, Nat.le_of_ble_eq_true rfl⟩ rfl (Nat.le_of_ble_eq_true rfl) ⟨(show 0 + 0 ≤ (rmC S (s_add S (nI pj) (nI qj)).2) by omega), (show 0 + 0 ≤ (rmS S (s_add S (nI pj) (nI qj)).2) by omega)⟩ (c2 := 0) (s2 := 0) rfl rfl (x_failed hx0 M hM 2) (fun v1 L1 f1 hp1 => ?_)
            obtain ⟨rfl, hx1⟩ := hp1
            show gW X vwCl 6 L1 f1 0 0 73 [(5, .null), (4, .null), (3, .int (nI 2)), (0, .ref M), (1, .int (nI pj)), (2, .int (nI qj))] [.int (fA 2)]
            have hc_p : castF S pj 4 = 2 := by unfold castF isO; rw [hk_p] <;> decide
            have hc_q : castF S qj 1 = 2 := by unfold castF isO; rw [hk_q] <;> decide
            have hbf : bthF S pj qj 1 = 2 := by unfold bthF; rw [hc_p, hc_q] <;> decide
            have hE : s_add S (nI pj) (nI qj) = (fA 2, (aSc (thS S) 1 2)) := by
              unfold s_add
              rw [if_pos h4, if_pos h11, hpl_p, hpl_q, hbf, if_pos (show 0 < 2 by decide)] <;> rfl
            refine g_widen (c2 := (rmC S (s_add S (nI pj) (nI qj)).2)) (s2 := (rmS S (s_add S (nI pj) (nI qj)).2)) (show 0 ≤ (rmC S (s_add S (nI pj) (nI qj)).2) by omega) (show 0 ≤ (rmS S (s_add S (nI pj) (nI qj)).2) by omega) ?_
            exact g_iret hC hR dX9_add_73 ⟨b, congrArg (fun z => some (Value.int (Prod.fst z))) hE.symm, by rw [hE]; exact hx1, xG.rf⟩
          · exfalso; omega
        · have hw_q : wh S qj < S.1 13 := hI.wt hqj (by omega)
          have hb_q : S.2.1 14 (wh S qj) ≠ 0 := by have := ((hI.2.1 _ hqj).2.2.2.2.2 (by omega)).2; omega
          have hp0_q : plcF (thS S) b qj = some (b.1 6 (wh S qj)) := plc_k hqj hk_q (by decide)
          refine g_aald hC 5 rfl (hx0.Mp rfl).1 (hx0.Mp rfl).2 (qj) rfl (show qj < 10 by omega) (by decide) dX9_add_27 ?_
          refine g_val (w := .ref (b.1 6 (wh S qj))) (congrArg va_rf hp0_q) ?_
          refine g_S (As := [.ref (b.1 2 (wh S pj)), .ref (b.1 6 (wh S qj))]) (st := []) hC 2 dX9_add_28 gX9_add_X9_lookFault rfl (by decide +kernel) ⟨Nat.le_of_ble_eq_true rfl, Nat.le_of_ble_eq_true rfl⟩ rfl (Nat.le_of_ble_eq_true rfl) ⟨(show 0 + 0 ≤ (rmC S (s_add S (nI pj) (nI qj)).2) by omega), (show 0 + 0 ≤ (rmS S (s_add S (nI pj) (nI qj)).2) by omega)⟩ (c2 := 0) (s2 := 0) rfl rfl (x_lookFault (some (b.1 2 (wh S pj))) (some (b.1 6 (wh S qj))) 2 5 (Or.inr ⟨_, 4, _, rfl, (hx0.G hw_p rfl), Or.inr (Or.inl ⟨rfl, rfl⟩)⟩) (Or.inr ⟨_, 1, _, rfl, (hx0.K hw_q rfl hb_q), Or.inr (Or.inr (Or.inr (Or.inr ⟨rfl, rfl⟩)))⟩)) ?_
          refine g_istore_n (lv' := [(3, .int (nI 2)), (0, .ref M), (1, .int (nI pj)), (2, .int (nI qj))]) hC dX9_add_31 rfl (by decide) rfl ?_
          refine g_aload_n hC dX9_add_32 rfl 1 rfl (Or.inr ⟨_, rfl⟩) ?_
          refine g_get hC (by decide +kernel) rfl (hx0.M hM).1 (hx0.M hM).2 0 (by decide) (by decide +kernel) (Or.inl rfl) rfl dX9_add_33 ?_
          refine g_iload_n hC dX9_add_36 rfl 2 rfl ?_
          refine g_aald hC 5 rfl (hx0.Mp rfl).1 (hx0.Mp rfl).2 (pj) rfl (show pj < 10 by omega) (by decide) dX9_add_37 ?_
          refine g_val (w := .ref (b.1 2 (wh S pj))) (congrArg va_rf hp0_p) ?_
          refine g_S (As := [.ref (b.1 2 (wh S pj))]) (st := []) hC 1 dX9_add_38 gX9_add_X9_asTable rfl (by decide +kernel) ⟨Nat.le_of_ble_eq_true rfl, Nat.le_of_ble_eq_true rfl⟩ rfl (Nat.le_of_ble_eq_true rfl) ⟨(show 0 + 0 ≤ (rmC S (s_add S (nI pj) (nI qj)).2) by omega), (show 0 + 0 ≤ (rmS S (s_add S (nI pj) (nI qj)).2) by omega)⟩ (c2 := 0) (s2 := 0) rfl rfl (x_asTable (some (b.1 2 (wh S pj))) 2 (Or.inr ⟨_, 4, _, rfl, (hx0.G hw_p rfl), Or.inr (Or.inl ⟨rfl, rfl⟩)⟩)) ?_
          refine g_astore (lv' := [(4, .null), (3, .int (nI 2)), (0, .ref M), (1, .int (nI pj)), (2, .int (nI qj))]) hC dX9_add_41 (by decide) rfl (Or.inl rfl) ?_
          refine g_aload_n hC dX9_add_43 rfl 2 rfl (Or.inr ⟨_, rfl⟩) ?_
          refine g_get hC (by decide +kernel) rfl (hx0.M hM).1 (hx0.M hM).2 0 (by decide) (by decide +kernel) (Or.inl rfl) rfl dX9_add_44 ?_
          refine g_iload_n hC dX9_add_47 rfl 4 rfl ?_
          refine g_aald hC 5 rfl (hx0.Mp rfl).1 (hx0.Mp rfl).2 (qj) rfl (show qj < 10 by omega) (by decide) dX9_add_48 ?_
          refine g_val (w := .ref (b.1 6 (wh S qj))) (congrArg va_rf hp0_q) ?_
          refine g_S (As := [.ref (b.1 6 (wh S qj))]) (st := []) hC 1 dX9_add_49 gX9_add_X9_asBytes rfl (by decide +kernel) ⟨Nat.le_of_ble_eq_true rfl, Nat.le_of_ble_eq_true rfl⟩ rfl (Nat.le_of_ble_eq_true rfl) ⟨(show 0 + 0 ≤ (rmC S (s_add S (nI pj) (nI qj)).2) by omega), (show 0 + 0 ≤ (rmS S (s_add S (nI pj) (nI qj)).2) by omega)⟩ (c2 := 0) (s2 := 0) rfl rfl (x_asBytes (some (b.1 6 (wh S qj))) 5 (Or.inr ⟨_, 1, _, rfl, (hx0.K hw_q rfl hb_q), Or.inr (Or.inr (Or.inr (Or.inr ⟨rfl, rfl⟩)))⟩)) ?_
          refine g_astore (lv' := [(5, .null), (4, .null), (3, .int (nI 2)), (0, .ref M), (1, .int (nI pj)), (2, .int (nI qj))]) hC dX9_add_52 (by decide) rfl (Or.inl rfl) ?_
          refine g_iload_n hC dX9_add_54 rfl 2 rfl ?_
          refine g_ifN_ne (a := 2) (tgt := 68) hC dX9_add_55 (by decide) (by omega) (fun h55 => ?_) (fun h55 => ?_)
          · refine g_aload_n hC dX9_add_68 rfl 3 rfl (Or.inr ⟨_, rfl⟩) ?_
            refine g_iload_n hC dX9_add_69 rfl 2 rfl ?_
            refine g_Vx (As := [.int (nI 2)]) (st := []) hC 1 dX9_add_70 rfl (hx0.M hM).1 (hx0.M hM).2 gX9_add_X9_failed rfl (by decide +kernel) ⟨Nat.le_of_ble_eq_true rfl, Nat.le_of_ble_eq_true rfl⟩ rfl (Nat.le_of_ble_eq_true rfl) ⟨(show 0 + 0 ≤ (rmC S (s_add S (nI pj) (nI qj)).2) by omega), (show 0 + 0 ≤ (rmS S (s_add S (nI pj) (nI qj)).2) by omega)⟩ (c2 := 0) (s2 := 0) rfl rfl (x_failed hx0 M hM 2) (fun v1 L1 f1 hp1 => ?_)
            obtain ⟨rfl, hx1⟩ := hp1
            show gW X vwCl 6 L1 f1 0 0 73 [(5, .null), (4, .null), (3, .int (nI 2)), (0, .ref M), (1, .int (nI pj)), (2, .int (nI qj))] [.int (fA 2)]
            have hc_p : castF S pj 4 = 2 := by unfold castF isO; rw [hk_p] <;> decide
            have hc_q : castF S qj 1 = 2 := by unfold castF isO; rw [hk_q] <;> decide
            have hbf : bthF S pj qj 1 = 2 := by unfold bthF; rw [hc_p, hc_q] <;> decide
            have hE : s_add S (nI pj) (nI qj) = (fA 2, (aSc (thS S) 1 2)) := by
              unfold s_add
              rw [if_pos h4, if_pos h11, hpl_p, hpl_q, hbf, if_pos (show 0 < 2 by decide)] <;> rfl
            refine g_widen (c2 := (rmC S (s_add S (nI pj) (nI qj)).2)) (s2 := (rmS S (s_add S (nI pj) (nI qj)).2)) (show 0 ≤ (rmC S (s_add S (nI pj) (nI qj)).2) by omega) (show 0 ≤ (rmS S (s_add S (nI pj) (nI qj)).2) by omega) ?_
            exact g_iret hC hR dX9_add_73 ⟨b, congrArg (fun z => some (Value.int (Prod.fst z))) hE.symm, by rw [hE]; exact hx1, xG.rf⟩
          · exfalso; omega
      · have hw_p : wh S pj < S.1 10 := hI.wr hpj hk_p
        have hp0_p : plcF (thS S) b pj = some (b.1 4 (wh S pj)) := plc_k hpj hk_p (by decide)
        refine g_aald hC 5 rfl (hx0.Mp rfl).1 (hx0.Mp rfl).2 (pj) rfl (show pj < 10 by omega) (by decide) dX9_add_21 ?_
        refine g_val (w := .ref (b.1 4 (wh S pj))) (congrArg va_rf hp0_p) ?_
        refine g_aload_n hC dX9_add_22 rfl 0 rfl (Or.inr ⟨_, rfl⟩) ?_
        refine g_get hC (by decide +kernel) rfl (hx0.M hM).1 (hx0.M hM).2 0 (by decide) (by decide +kernel) (Or.inl rfl) rfl dX9_add_23 ?_
        refine g_iload_n hC dX9_add_26 rfl 2 rfl ?_
        have h5_q := hI.k5 hqj
        rcases (show kd S qj = 0 ∨ kd S qj = 1 ∨ kd S qj = 2 ∨ kd S qj = 3 ∨ kd S qj = 4 ∨ kd S qj = 5 by omega) with hk_q | hk_q | hk_q | hk_q | hk_q | hk_q
        · have hp0_q : plcF (thS S) b qj = none := plc_0 hqj hk_q
          refine g_aald hC 5 rfl (hx0.Mp rfl).1 (hx0.Mp rfl).2 (qj) rfl (show qj < 10 by omega) (by decide) dX9_add_27 ?_
          refine g_val (w := .null) (congrArg va_rf hp0_q) ?_
          refine g_S (As := [.ref (b.1 4 (wh S pj)), .null]) (st := []) hC 2 dX9_add_28 gX9_add_X9_lookFault rfl (by decide +kernel) ⟨Nat.le_of_ble_eq_true rfl, Nat.le_of_ble_eq_true rfl⟩ rfl (Nat.le_of_ble_eq_true rfl) ⟨(show 0 + 0 ≤ (rmC S (s_add S (nI pj) (nI qj)).2) by omega), (show 0 + 0 ≤ (rmS S (s_add S (nI pj) (nI qj)).2) by omega)⟩ (c2 := 0) (s2 := 0) rfl rfl (x_lookFault (some (b.1 4 (wh S pj))) none 3 0 (Or.inr ⟨_, 3, _, rfl, (hx0.W hw_p rfl), Or.inr (Or.inr (Or.inl ⟨rfl, rfl⟩))⟩) (Or.inl ⟨rfl, rfl⟩)) ?_
          refine g_istore_n (lv' := [(3, .int (nI 2)), (0, .ref M), (1, .int (nI pj)), (2, .int (nI qj))]) hC dX9_add_31 rfl (by decide) rfl ?_
          refine g_aload_n hC dX9_add_32 rfl 1 rfl (Or.inr ⟨_, rfl⟩) ?_
          refine g_get hC (by decide +kernel) rfl (hx0.M hM).1 (hx0.M hM).2 0 (by decide) (by decide +kernel) (Or.inl rfl) rfl dX9_add_33 ?_
          refine g_iload_n hC dX9_add_36 rfl 2 rfl ?_
          refine g_aald hC 5 rfl (hx0.Mp rfl).1 (hx0.Mp rfl).2 (pj) rfl (show pj < 10 by omega) (by decide) dX9_add_37 ?_
          refine g_val (w := .ref (b.1 4 (wh S pj))) (congrArg va_rf hp0_p) ?_
          refine g_S (As := [.ref (b.1 4 (wh S pj))]) (st := []) hC 1 dX9_add_38 gX9_add_X9_asTable rfl (by decide +kernel) ⟨Nat.le_of_ble_eq_true rfl, Nat.le_of_ble_eq_true rfl⟩ rfl (Nat.le_of_ble_eq_true rfl) ⟨(show 0 + 0 ≤ (rmC S (s_add S (nI pj) (nI qj)).2) by omega), (show 0 + 0 ≤ (rmS S (s_add S (nI pj) (nI qj)).2) by omega)⟩ (c2 := 0) (s2 := 0) rfl rfl (x_asTable (some (b.1 4 (wh S pj))) 3 (Or.inr ⟨_, 3, _, rfl, (hx0.W hw_p rfl), Or.inr (Or.inr (Or.inl ⟨rfl, rfl⟩))⟩)) ?_
          refine g_astore (lv' := [(4, .null), (3, .int (nI 2)), (0, .ref M), (1, .int (nI pj)), (2, .int (nI qj))]) hC dX9_add_41 (by decide) rfl (Or.inl rfl) ?_
          refine g_aload_n hC dX9_add_43 rfl 2 rfl (Or.inr ⟨_, rfl⟩) ?_
          refine g_get hC (by decide +kernel) rfl (hx0.M hM).1 (hx0.M hM).2 0 (by decide) (by decide +kernel) (Or.inl rfl) rfl dX9_add_44 ?_
          refine g_iload_n hC dX9_add_47 rfl 4 rfl ?_
          refine g_aald hC 5 rfl (hx0.Mp rfl).1 (hx0.Mp rfl).2 (qj) rfl (show qj < 10 by omega) (by decide) dX9_add_48 ?_
          refine g_val (w := .null) (congrArg va_rf hp0_q) ?_
          refine g_S (As := [.null]) (st := []) hC 1 dX9_add_49 gX9_add_X9_asBytes rfl (by decide +kernel) ⟨Nat.le_of_ble_eq_true rfl, Nat.le_of_ble_eq_true rfl⟩ rfl (Nat.le_of_ble_eq_true rfl) ⟨(show 0 + 0 ≤ (rmC S (s_add S (nI pj) (nI qj)).2) by omega), (show 0 + 0 ≤ (rmS S (s_add S (nI pj) (nI qj)).2) by omega)⟩ (c2 := 0) (s2 := 0) rfl rfl (x_asBytes none 0 (Or.inl ⟨rfl, rfl⟩)) ?_
          refine g_astore (lv' := [(5, .null), (4, .null), (3, .int (nI 2)), (0, .ref M), (1, .int (nI pj)), (2, .int (nI qj))]) hC dX9_add_52 (by decide) rfl (Or.inl rfl) ?_
          refine g_iload_n hC dX9_add_54 rfl 2 rfl ?_
          refine g_ifN_ne (a := 2) (tgt := 68) hC dX9_add_55 (by decide) (by omega) (fun h55 => ?_) (fun h55 => ?_)
          · refine g_aload_n hC dX9_add_68 rfl 3 rfl (Or.inr ⟨_, rfl⟩) ?_
            refine g_iload_n hC dX9_add_69 rfl 2 rfl ?_
            refine g_Vx (As := [.int (nI 2)]) (st := []) hC 1 dX9_add_70 rfl (hx0.M hM).1 (hx0.M hM).2 gX9_add_X9_failed rfl (by decide +kernel) ⟨Nat.le_of_ble_eq_true rfl, Nat.le_of_ble_eq_true rfl⟩ rfl (Nat.le_of_ble_eq_true rfl) ⟨(show 0 + 0 ≤ (rmC S (s_add S (nI pj) (nI qj)).2) by omega), (show 0 + 0 ≤ (rmS S (s_add S (nI pj) (nI qj)).2) by omega)⟩ (c2 := 0) (s2 := 0) rfl rfl (x_failed hx0 M hM 2) (fun v1 L1 f1 hp1 => ?_)
            obtain ⟨rfl, hx1⟩ := hp1
            show gW X vwCl 6 L1 f1 0 0 73 [(5, .null), (4, .null), (3, .int (nI 2)), (0, .ref M), (1, .int (nI pj)), (2, .int (nI qj))] [.int (fA 2)]
            have hc_p : castF S pj 4 = 2 := by unfold castF isO; rw [hk_p] <;> decide
            have hc_q : castF S qj 1 = 1 := by unfold castF isO; rw [hk_q] <;> decide
            have hbf : bthF S pj qj 1 = 2 := by unfold bthF; rw [hc_p, hc_q] <;> decide
            have hE : s_add S (nI pj) (nI qj) = (fA 2, (aSc (thS S) 1 2)) := by
              unfold s_add
              rw [if_pos h4, if_pos h11, hpl_p, hpl_q, hbf, if_pos (show 0 < 2 by decide)] <;> rfl
            refine g_widen (c2 := (rmC S (s_add S (nI pj) (nI qj)).2)) (s2 := (rmS S (s_add S (nI pj) (nI qj)).2)) (show 0 ≤ (rmC S (s_add S (nI pj) (nI qj)).2) by omega) (show 0 ≤ (rmS S (s_add S (nI pj) (nI qj)).2) by omega) ?_
            exact g_iret hC hR dX9_add_73 ⟨b, congrArg (fun z => some (Value.int (Prod.fst z))) hE.symm, by rw [hE]; exact hx1, xG.rf⟩
          · exfalso; omega
        · have hw_q : wh S qj < S.1 4 := hI.wl hqj hk_q
          have hp0_q : plcF (thS S) b qj = some (b.1 0 (wh S qj)) := plc_k hqj hk_q (by decide)
          refine g_aald hC 5 rfl (hx0.Mp rfl).1 (hx0.Mp rfl).2 (qj) rfl (show qj < 10 by omega) (by decide) dX9_add_27 ?_
          refine g_val (w := .ref (b.1 0 (wh S qj))) (congrArg va_rf hp0_q) ?_
          refine g_S (As := [.ref (b.1 4 (wh S pj)), .ref (b.1 0 (wh S qj))]) (st := []) hC 2 dX9_add_28 gX9_add_X9_lookFault rfl (by decide +kernel) ⟨Nat.le_of_ble_eq_true rfl, Nat.le_of_ble_eq_true rfl⟩ rfl (Nat.le_of_ble_eq_true rfl) ⟨(show 0 + 0 ≤ (rmC S (s_add S (nI pj) (nI qj)).2) by omega), (show 0 + 0 ≤ (rmS S (s_add S (nI pj) (nI qj)).2) by omega)⟩ (c2 := 0) (s2 := 0) rfl rfl (x_lookFault (some (b.1 4 (wh S pj))) (some (b.1 0 (wh S qj))) 3 1 (Or.inr ⟨_, 3, _, rfl, (hx0.W hw_p rfl), Or.inr (Or.inr (Or.inl ⟨rfl, rfl⟩))⟩) (Or.inr ⟨_, 0, _, rfl, (hx0.B hw_q rfl), Or.inl ⟨rfl, rfl⟩⟩)) ?_
          refine g_istore_n (lv' := [(3, .int (nI 2)), (0, .ref M), (1, .int (nI pj)), (2, .int (nI qj))]) hC dX9_add_31 rfl (by decide) rfl ?_
          refine g_aload_n hC dX9_add_32 rfl 1 rfl (Or.inr ⟨_, rfl⟩) ?_
          refine g_get hC (by decide +kernel) rfl (hx0.M hM).1 (hx0.M hM).2 0 (by decide) (by decide +kernel) (Or.inl rfl) rfl dX9_add_33 ?_
          refine g_iload_n hC dX9_add_36 rfl 2 rfl ?_
          refine g_aald hC 5 rfl (hx0.Mp rfl).1 (hx0.Mp rfl).2 (pj) rfl (show pj < 10 by omega) (by decide) dX9_add_37 ?_
          refine g_val (w := .ref (b.1 4 (wh S pj))) (congrArg va_rf hp0_p) ?_
          refine g_S (As := [.ref (b.1 4 (wh S pj))]) (st := []) hC 1 dX9_add_38 gX9_add_X9_asTable rfl (by decide +kernel) ⟨Nat.le_of_ble_eq_true rfl, Nat.le_of_ble_eq_true rfl⟩ rfl (Nat.le_of_ble_eq_true rfl) ⟨(show 0 + 0 ≤ (rmC S (s_add S (nI pj) (nI qj)).2) by omega), (show 0 + 0 ≤ (rmS S (s_add S (nI pj) (nI qj)).2) by omega)⟩ (c2 := 0) (s2 := 0) rfl rfl (x_asTable (some (b.1 4 (wh S pj))) 3 (Or.inr ⟨_, 3, _, rfl, (hx0.W hw_p rfl), Or.inr (Or.inr (Or.inl ⟨rfl, rfl⟩))⟩)) ?_
          refine g_astore (lv' := [(4, .null), (3, .int (nI 2)), (0, .ref M), (1, .int (nI pj)), (2, .int (nI qj))]) hC dX9_add_41 (by decide) rfl (Or.inl rfl) ?_
          refine g_aload_n hC dX9_add_43 rfl 2 rfl (Or.inr ⟨_, rfl⟩) ?_
          refine g_get hC (by decide +kernel) rfl (hx0.M hM).1 (hx0.M hM).2 0 (by decide) (by decide +kernel) (Or.inl rfl) rfl dX9_add_44 ?_
          refine g_iload_n hC dX9_add_47 rfl 4 rfl ?_
          refine g_aald hC 5 rfl (hx0.Mp rfl).1 (hx0.Mp rfl).2 (qj) rfl (show qj < 10 by omega) (by decide) dX9_add_48 ?_
          refine g_val (w := .ref (b.1 0 (wh S qj))) (congrArg va_rf hp0_q) ?_
          refine g_S (As := [.ref (b.1 0 (wh S qj))]) (st := []) hC 1 dX9_add_49 gX9_add_X9_asBytes rfl (by decide +kernel) ⟨Nat.le_of_ble_eq_true rfl, Nat.le_of_ble_eq_true rfl⟩ rfl (Nat.le_of_ble_eq_true rfl) ⟨(show 0 + 0 ≤ (rmC S (s_add S (nI pj) (nI qj)).2) by omega), (show 0 + 0 ≤ (rmS S (s_add S (nI pj) (nI qj)).2) by omega)⟩ (c2 := 0) (s2 := 0) rfl rfl (x_asBytes (some (b.1 0 (wh S qj))) 1 (Or.inr ⟨_, 0, _, rfl, (hx0.B hw_q rfl), Or.inl ⟨rfl, rfl⟩⟩)) ?_
          refine g_astore (lv' := [(5, .ref (b.1 0 (wh S qj))), (4, .null), (3, .int (nI 2)), (0, .ref M), (1, .int (nI pj)), (2, .int (nI qj))]) hC dX9_add_52 (by decide) rfl (Or.inr ⟨_, rfl⟩) ?_
          refine g_iload_n hC dX9_add_54 rfl 2 rfl ?_
          refine g_ifN_ne (a := 2) (tgt := 68) hC dX9_add_55 (by decide) (by omega) (fun h55 => ?_) (fun h55 => ?_)
          · refine g_aload_n hC dX9_add_68 rfl 3 rfl (Or.inr ⟨_, rfl⟩) ?_
            refine g_iload_n hC dX9_add_69 rfl 2 rfl ?_
            refine g_Vx (As := [.int (nI 2)]) (st := []) hC 1 dX9_add_70 rfl (hx0.M hM).1 (hx0.M hM).2 gX9_add_X9_failed rfl (by decide +kernel) ⟨Nat.le_of_ble_eq_true rfl, Nat.le_of_ble_eq_true rfl⟩ rfl (Nat.le_of_ble_eq_true rfl) ⟨(show 0 + 0 ≤ (rmC S (s_add S (nI pj) (nI qj)).2) by omega), (show 0 + 0 ≤ (rmS S (s_add S (nI pj) (nI qj)).2) by omega)⟩ (c2 := 0) (s2 := 0) rfl rfl (x_failed hx0 M hM 2) (fun v1 L1 f1 hp1 => ?_)
            obtain ⟨rfl, hx1⟩ := hp1
            show gW X vwCl 6 L1 f1 0 0 73 [(5, .ref (b.1 0 (wh S qj))), (4, .null), (3, .int (nI 2)), (0, .ref M), (1, .int (nI pj)), (2, .int (nI qj))] [.int (fA 2)]
            have hc_p : castF S pj 4 = 2 := by unfold castF isO; rw [hk_p] <;> decide
            have hc_q : castF S qj 1 = 0 := by unfold castF isO; rw [hk_q] <;> decide
            have hbf : bthF S pj qj 1 = 2 := by unfold bthF; rw [hc_p, hc_q] <;> decide
            have hE : s_add S (nI pj) (nI qj) = (fA 2, (aSc (thS S) 1 2)) := by
              unfold s_add
              rw [if_pos h4, if_pos h11, hpl_p, hpl_q, hbf, if_pos (show 0 < 2 by decide)] <;> rfl
            refine g_widen (c2 := (rmC S (s_add S (nI pj) (nI qj)).2)) (s2 := (rmS S (s_add S (nI pj) (nI qj)).2)) (show 0 ≤ (rmC S (s_add S (nI pj) (nI qj)).2) by omega) (show 0 ≤ (rmS S (s_add S (nI pj) (nI qj)).2) by omega) ?_
            exact g_iret hC hR dX9_add_73 ⟨b, congrArg (fun z => some (Value.int (Prod.fst z))) hE.symm, by rw [hE]; exact hx1, xG.rf⟩
          · exfalso; omega
        · have hw_q : wh S qj < S.1 7 := hI.ws hqj hk_q
          have hp0_q : plcF (thS S) b qj = some (b.1 2 (wh S qj)) := plc_k hqj hk_q (by decide)
          refine g_aald hC 5 rfl (hx0.Mp rfl).1 (hx0.Mp rfl).2 (qj) rfl (show qj < 10 by omega) (by decide) dX9_add_27 ?_
          refine g_val (w := .ref (b.1 2 (wh S qj))) (congrArg va_rf hp0_q) ?_
          refine g_S (As := [.ref (b.1 4 (wh S pj)), .ref (b.1 2 (wh S qj))]) (st := []) hC 2 dX9_add_28 gX9_add_X9_lookFault rfl (by decide +kernel) ⟨Nat.le_of_ble_eq_true rfl, Nat.le_of_ble_eq_true rfl⟩ rfl (Nat.le_of_ble_eq_true rfl) ⟨(show 0 + 0 ≤ (rmC S (s_add S (nI pj) (nI qj)).2) by omega), (show 0 + 0 ≤ (rmS S (s_add S (nI pj) (nI qj)).2) by omega)⟩ (c2 := 0) (s2 := 0) rfl rfl (x_lookFault (some (b.1 4 (wh S pj))) (some (b.1 2 (wh S qj))) 3 2 (Or.inr ⟨_, 3, _, rfl, (hx0.W hw_p rfl), Or.inr (Or.inr (Or.inl ⟨rfl, rfl⟩))⟩) (Or.inr ⟨_, 4, _, rfl, (hx0.G hw_q rfl), Or.inr (Or.inl ⟨rfl, rfl⟩)⟩)) ?_
          refine g_istore_n (lv' := [(3, .int (nI 2)), (0, .ref M), (1, .int (nI pj)), (2, .int (nI qj))]) hC dX9_add_31 rfl (by decide) rfl ?_
          refine g_aload_n hC dX9_add_32 rfl 1 rfl (Or.inr ⟨_, rfl⟩) ?_
          refine g_get hC (by decide +kernel) rfl (hx0.M hM).1 (hx0.M hM).2 0 (by decide) (by decide +kernel) (Or.inl rfl) rfl dX9_add_33 ?_
          refine g_iload_n hC dX9_add_36 rfl 2 rfl ?_
          refine g_aald hC 5 rfl (hx0.Mp rfl).1 (hx0.Mp rfl).2 (pj) rfl (show pj < 10 by omega) (by decide) dX9_add_37 ?_
          refine g_val (w := .ref (b.1 4 (wh S pj))) (congrArg va_rf hp0_p) ?_
          refine g_S (As := [.ref (b.1 4 (wh S pj))]) (st := []) hC 1 dX9_add_38 gX9_add_X9_asTable rfl (by decide +kernel) ⟨Nat.le_of_ble_eq_true rfl, Nat.le_of_ble_eq_true rfl⟩ rfl (Nat.le_of_ble_eq_true rfl) ⟨(show 0 + 0 ≤ (rmC S (s_add S (nI pj) (nI qj)).2) by omega), (show 0 + 0 ≤ (rmS S (s_add S (nI pj) (nI qj)).2) by omega)⟩ (c2 := 0) (s2 := 0) rfl rfl (x_asTable (some (b.1 4 (wh S pj))) 3 (Or.inr ⟨_, 3, _, rfl, (hx0.W hw_p rfl), Or.inr (Or.inr (Or.inl ⟨rfl, rfl⟩))⟩)) ?_
          refine g_astore (lv' := [(4, .null), (3, .int (nI 2)), (0, .ref M), (1, .int (nI pj)), (2, .int (nI qj))]) hC dX9_add_41 (by decide) rfl (Or.inl rfl) ?_
          refine g_aload_n hC dX9_add_43 rfl 2 rfl (Or.inr ⟨_, rfl⟩) ?_
          refine g_get hC (by decide +kernel) rfl (hx0.M hM).1 (hx0.M hM).2 0 (by decide) (by decide +kernel) (Or.inl rfl) rfl dX9_add_44 ?_
          refine g_iload_n hC dX9_add_47 rfl 4 rfl ?_
          refine g_aald hC 5 rfl (hx0.Mp rfl).1 (hx0.Mp rfl).2 (qj) rfl (show qj < 10 by omega) (by decide) dX9_add_48 ?_
          refine g_val (w := .ref (b.1 2 (wh S qj))) (congrArg va_rf hp0_q) ?_
          refine g_S (As := [.ref (b.1 2 (wh S qj))]) (st := []) hC 1 dX9_add_49 gX9_add_X9_asBytes rfl (by decide +kernel) ⟨Nat.le_of_ble_eq_true rfl, Nat.le_of_ble_eq_true rfl⟩ rfl (Nat.le_of_ble_eq_true rfl) ⟨(show 0 + 0 ≤ (rmC S (s_add S (nI pj) (nI qj)).2) by omega), (show 0 + 0 ≤ (rmS S (s_add S (nI pj) (nI qj)).2) by omega)⟩ (c2 := 0) (s2 := 0) rfl rfl (x_asBytes (some (b.1 2 (wh S qj))) 2 (Or.inr ⟨_, 4, _, rfl, (hx0.G hw_q rfl), Or.inr (Or.inl ⟨rfl, rfl⟩)⟩)) ?_
          refine g_astore (lv' := [(5, .null), (4, .null), (3, .int (nI 2)), (0, .ref M), (1, .int (nI pj)), (2, .int (nI qj))]) hC dX9_add_52 (by decide) rfl (Or.inl rfl) ?_
          refine g_iload_n hC dX9_add_54 rfl 2 rfl ?_
          refine g_ifN_ne (a := 2) (tgt := 68) hC dX9_add_55 (by decide) (by omega) (fun h55 => ?_) (fun h55 => ?_)
          · refine g_aload_n hC dX9_add_68 rfl 3 rfl (Or.inr ⟨_, rfl⟩) ?_
            refine g_iload_n hC dX9_add_69 rfl 2 rfl ?_
            refine g_Vx (As := [.int (nI 2)]) (st := []) hC 1 dX9_add_70 rfl (hx0.M hM).1 (hx0.M hM).2 gX9_add_X9_failed rfl (by decide +kernel) ⟨Nat.le_of_ble_eq_true rfl, Nat.le_of_ble_eq_true rfl⟩ rfl (Nat.le_of_ble_eq_true rfl) ⟨(show 0 + 0 ≤ (rmC S (s_add S (nI pj) (nI qj)).2) by omega), (show 0 + 0 ≤ (rmS S (s_add S (nI pj) (nI qj)).2) by omega)⟩ (c2 := 0) (s2 := 0) rfl rfl (x_failed hx0 M hM 2) (fun v1 L1 f1 hp1 => ?_)
            obtain ⟨rfl, hx1⟩ := hp1
            show gW X vwCl 6 L1 f1 0 0 73 [(5, .null), (4, .null), (3, .int (nI 2)), (0, .ref M), (1, .int (nI pj)), (2, .int (nI qj))] [.int (fA 2)]
            have hc_p : castF S pj 4 = 2 := by unfold castF isO; rw [hk_p] <;> decide
            have hc_q : castF S qj 1 = 2 := by unfold castF isO; rw [hk_q] <;> decide
            have hbf : bthF S pj qj 1 = 2 := by unfold bthF; rw [hc_p, hc_q] <;> decide
            have hE : s_add S (nI pj) (nI qj) = (fA 2, (aSc (thS S) 1 2)) := by
              unfold s_add
              rw [if_pos h4, if_pos h11, hpl_p, hpl_q, hbf, if_pos (show 0 < 2 by decide)] <;> rfl
            refine g_widen (c2 := (rmC S (s_add S (nI pj) (nI qj)).2)) (s2 := (rmS S (s_add S (nI pj) (nI qj)).2)) (show 0 ≤ (rmC S (s_add S (nI pj) (nI qj)).2) by omega) (show 0 ≤ (rmS S (s_add S (nI pj) (nI qj)).2) by omega) ?_
            exact g_iret hC hR dX9_add_73 ⟨b, congrArg (fun z => some (Value.int (Prod.fst z))) hE.symm, by rw [hE]; exact hx1, xG.rf⟩
          · exfalso; omega
        · have hw_q : wh S qj < S.1 10 := hI.wr hqj hk_q
          have hp0_q : plcF (thS S) b qj = some (b.1 4 (wh S qj)) := plc_k hqj hk_q (by decide)
          refine g_aald hC 5 rfl (hx0.Mp rfl).1 (hx0.Mp rfl).2 (qj) rfl (show qj < 10 by omega) (by decide) dX9_add_27 ?_
          refine g_val (w := .ref (b.1 4 (wh S qj))) (congrArg va_rf hp0_q) ?_
          refine g_S (As := [.ref (b.1 4 (wh S pj)), .ref (b.1 4 (wh S qj))]) (st := []) hC 2 dX9_add_28 gX9_add_X9_lookFault rfl (by decide +kernel) ⟨Nat.le_of_ble_eq_true rfl, Nat.le_of_ble_eq_true rfl⟩ rfl (Nat.le_of_ble_eq_true rfl) ⟨(show 0 + 0 ≤ (rmC S (s_add S (nI pj) (nI qj)).2) by omega), (show 0 + 0 ≤ (rmS S (s_add S (nI pj) (nI qj)).2) by omega)⟩ (c2 := 0) (s2 := 0) rfl rfl (x_lookFault (some (b.1 4 (wh S pj))) (some (b.1 4 (wh S qj))) 3 3 (Or.inr ⟨_, 3, _, rfl, (hx0.W hw_p rfl), Or.inr (Or.inr (Or.inl ⟨rfl, rfl⟩))⟩) (Or.inr ⟨_, 3, _, rfl, (hx0.W hw_q rfl), Or.inr (Or.inr (Or.inl ⟨rfl, rfl⟩))⟩)) ?_
          refine g_istore_n (lv' := [(3, .int (nI 2)), (0, .ref M), (1, .int (nI pj)), (2, .int (nI qj))]) hC dX9_add_31 rfl (by decide) rfl ?_
          refine g_aload_n hC dX9_add_32 rfl 1 rfl (Or.inr ⟨_, rfl⟩) ?_
          refine g_get hC (by decide +kernel) rfl (hx0.M hM).1 (hx0.M hM).2 0 (by decide) (by decide +kernel) (Or.inl rfl) rfl dX9_add_33 ?_
          refine g_iload_n hC dX9_add_36 rfl 2 rfl ?_
          refine g_aald hC 5 rfl (hx0.Mp rfl).1 (hx0.Mp rfl).2 (pj) rfl (show pj < 10 by omega) (by decide) dX9_add_37 ?_
          refine g_val (w := .ref (b.1 4 (wh S pj))) (congrArg va_rf hp0_p) ?_
          refine g_S (As := [.ref (b.1 4 (wh S pj))]) (st := []) hC 1 dX9_add_38 gX9_add_X9_asTable rfl (by decide +kernel) ⟨Nat.le_of_ble_eq_true rfl, Nat.le_of_ble_eq_true rfl⟩ rfl (Nat.le_of_ble_eq_true rfl) ⟨(show 0 + 0 ≤ (rmC S (s_add S (nI pj) (nI qj)).2) by omega), (show 0 + 0 ≤ (rmS S (s_add S (nI pj) (nI qj)).2) by omega)⟩ (c2 := 0) (s2 := 0) rfl rfl (x_asTable (some (b.1 4 (wh S pj))) 3 (Or.inr ⟨_, 3, _, rfl, (hx0.W hw_p rfl), Or.inr (Or.inr (Or.inl ⟨rfl, rfl⟩))⟩)) ?_
          refine g_astore (lv' := [(4, .null), (3, .int (nI 2)), (0, .ref M), (1, .int (nI pj)), (2, .int (nI qj))]) hC dX9_add_41 (by decide) rfl (Or.inl rfl) ?_
          refine g_aload_n hC dX9_add_43 rfl 2 rfl (Or.inr ⟨_, rfl⟩) ?_
          refine g_get hC (by decide +kernel) rfl (hx0.M hM).1 (hx0.M hM).2 0 (by decide) (by decide +kernel) (Or.inl rfl) rfl dX9_add_44 ?_
          refine g_iload_n hC dX9_add_47 rfl 4 rfl ?_
          refine g_aald hC 5 rfl (hx0.Mp rfl).1 (hx0.Mp rfl).2 (qj) rfl (show qj < 10 by omega) (by decide) dX9_add_48 ?_
          refine g_val (w := .ref (b.1 4 (wh S qj))) (congrArg va_rf hp0_q) ?_
          refine g_S (As := [.ref (b.1 4 (wh S qj))]) (st := []) hC 1 dX9_add_49 gX9_add_X9_asBytes rfl (by decide +kernel) ⟨Nat.le_of_ble_eq_true rfl, Nat.le_of_ble_eq_true rfl⟩ rfl (Nat.le_of_ble_eq_true rfl) ⟨(show 0 + 0 ≤ (rmC S (s_add S (nI pj) (nI qj)).2) by omega), (show 0 + 0 ≤ (rmS S (s_add S (nI pj) (nI qj)).2) by omega)⟩ (c2 := 0) (s2 := 0) rfl rfl (x_asBytes (some (b.1 4 (wh S qj))) 3 (Or.inr ⟨_, 3, _, rfl, (hx0.W hw_q rfl), Or.inr (Or.inr (Or.inl ⟨rfl, rfl⟩))⟩)) ?_
          refine g_astore (lv' := [(5, .null), (4, .null), (3, .int (nI 2)), (0, .ref M), (1, .int (nI pj)), (2, .int (nI qj))]) hC dX9_add_52 (by decide) rfl (Or.inl rfl) ?_
          refine g_iload_n hC dX9_add_54 rfl 2 rfl ?_
          refine g_ifN_ne (a := 2) (tgt := 68) hC dX9_add_55 (by decide) (by omega) (fun h55 => ?_) (fun h55 => ?_)
          · refine g_aload_n hC dX9_add_68 rfl 3 rfl (Or.inr ⟨_, rfl⟩) ?_
            refine g_iload_n hC dX9_add_69 rfl 2 rfl ?_
            refine g_Vx (As := [.int (nI 2)]) (st := []) hC 1 dX9_add_70 rfl (hx0.M hM).1 (hx0.M hM).2 gX9_add_X9_failed rfl (by decide +kernel) ⟨Nat.le_of_ble_eq_true rfl, Nat.le_of_ble_eq_true rfl⟩ rfl (Nat.le_of_ble_eq_true rfl) ⟨(show 0 + 0 ≤ (rmC S (s_add S (nI pj) (nI qj)).2) by omega), (show 0 + 0 ≤ (rmS S (s_add S (nI pj) (nI qj)).2) by omega)⟩ (c2 := 0) (s2 := 0) rfl rfl (x_failed hx0 M hM 2) (fun v1 L1 f1 hp1 => ?_)
            obtain ⟨rfl, hx1⟩ := hp1
            show gW X vwCl 6 L1 f1 0 0 73 [(5, .null), (4, .null), (3, .int (nI 2)), (0, .ref M), (1, .int (nI pj)), (2, .int (nI qj))] [.int (fA 2)]
            have hc_p : castF S pj 4 = 2 := by unfold castF isO; rw [hk_p] <;> decide
            have hc_q : castF S qj 1 = 2 := by unfold castF isO; rw [hk_q] <;> decide
            have hbf : bthF S pj qj 1 = 2 := by unfold bthF; rw [hc_p, hc_q] <;> decide
            have hE : s_add S (nI pj) (nI qj) = (fA 2, (aSc (thS S) 1 2)) := by
              unfold s_add
              rw [if_pos h4, if_pos h11, hpl_p, hpl_q, hbf, if_pos (show 0 < 2 by decide)] <;> rfl
            refine g_widen (c2 := (rmC S (s_add S (nI pj) (nI qj)).2)) (s2 := (rmS S (s_add S (nI pj) (nI qj)).2)) (show 0 ≤ (rmC S (s_add S (nI pj) (nI qj)).2) by omega) (show 0 ≤ (rmS S (s_add S (nI pj) (nI qj)).2) by omega) ?_
            exact g_iret hC hR dX9_add_73 ⟨b, congrArg (fun z => some (Value.int (Prod.fst z))) hE.symm, by rw [hE]; exact hx1, xG.rf⟩
          · exfalso; omega
        · have hw_q : wh S qj < S.1 13 := hI.wt hqj (by omega)
          have hb_q : S.2.1 14 (wh S qj) = 0 := by have := ((hI.2.1 _ hqj).2.2.2.2.2 (by omega)).2; omega
          have hp0_q : plcF (thS S) b qj = some (b.1 6 (wh S qj)) := plc_k hqj hk_q (by decide)
          refine g_aald hC 5 rfl (hx0.Mp rfl).1 (hx0.Mp rfl).2 (qj) rfl (show qj < 10 by omega) (by decide) dX9_add_27 ?_
          refine g_val (w := .ref (b.1 6 (wh S qj))) (congrArg va_rf hp0_q) ?_
          refine g_S (As := [.ref (b.1 4 (wh S pj)), .ref (b.1 6 (wh S qj))]) (st := []) hC 2 dX9_add_28 gX9_add_X9_lookFault rfl (by decide +kernel) ⟨Nat.le_of_ble_eq_true rfl, Nat.le_of_ble_eq_true rfl⟩ rfl (Nat.le_of_ble_eq_true rfl) ⟨(show 0 + 0 ≤ (rmC S (s_add S (nI pj) (nI qj)).2) by omega), (show 0 + 0 ≤ (rmS S (s_add S (nI pj) (nI qj)).2) by omega)⟩ (c2 := 0) (s2 := 0) rfl rfl (x_lookFault (some (b.1 4 (wh S pj))) (some (b.1 6 (wh S qj))) 3 4 (Or.inr ⟨_, 3, _, rfl, (hx0.W hw_p rfl), Or.inr (Or.inr (Or.inl ⟨rfl, rfl⟩))⟩) (Or.inr ⟨_, 5, _, rfl, (hx0.T hw_q rfl hb_q), Or.inr (Or.inr (Or.inr (Or.inl ⟨rfl, rfl⟩)))⟩)) ?_
          refine g_istore_n (lv' := [(3, .int (nI 2)), (0, .ref M), (1, .int (nI pj)), (2, .int (nI qj))]) hC dX9_add_31 rfl (by decide) rfl ?_
          refine g_aload_n hC dX9_add_32 rfl 1 rfl (Or.inr ⟨_, rfl⟩) ?_
          refine g_get hC (by decide +kernel) rfl (hx0.M hM).1 (hx0.M hM).2 0 (by decide) (by decide +kernel) (Or.inl rfl) rfl dX9_add_33 ?_
          refine g_iload_n hC dX9_add_36 rfl 2 rfl ?_
          refine g_aald hC 5 rfl (hx0.Mp rfl).1 (hx0.Mp rfl).2 (pj) rfl (show pj < 10 by omega) (by decide) dX9_add_37 ?_
          refine g_val (w := .ref (b.1 4 (wh S pj))) (congrArg va_rf hp0_p) ?_
          refine g_S (As := [.ref (b.1 4 (wh S pj))]) (st := []) hC 1 dX9_add_38 gX9_add_X9_asTable rfl (by decide +kernel) ⟨Nat.le_of_ble_eq_true rfl, Nat.le_of_ble_eq_true rfl⟩ rfl (Nat.le_of_ble_eq_true rfl) ⟨(show 0 + 0 ≤ (rmC S (s_add S (nI pj) (nI qj)).2) by omega), (show 0 + 0 ≤ (rmS S (s_add S (nI pj) (nI qj)).2) by omega)⟩ (c2 := 0) (s2 := 0) rfl rfl (x_asTable (some (b.1 4 (wh S pj))) 3 (Or.inr ⟨_, 3, _, rfl, (hx0.W hw_p rfl), Or.inr (Or.inr (Or.inl ⟨rfl, rfl⟩))⟩)) ?_
          refine g_astore (lv' := [(4, .null), (3, .int (nI 2)), (0, .ref M), (1, .int (nI pj)), (2, .int (nI qj))]) hC dX9_add_41 (by decide) rfl (Or.inl rfl) ?_
          refine g_aload_n hC dX9_add_43 rfl 2 rfl (Or.inr ⟨_, rfl⟩) ?_
          refine g_get hC (by decide +kernel) rfl (hx0.M hM).1 (hx0.M hM).2 0 (by decide) (by decide +kernel) (Or.inl rfl) rfl dX9_add_44 ?_
          refine g_iload_n hC dX9_add_47 rfl 4 rfl ?_
          refine g_aald hC 5 rfl (hx0.Mp rfl).1 (hx0.Mp rfl).2 (qj) rfl (show qj < 10 by omega) (by decide) dX9_add_48 ?_
          refine g_val (w := .ref (b.1 6 (wh S qj))) (congrArg va_rf hp0_q) ?_
          refine g_S (As := [.ref (b.1 6 (wh S qj))]) (st := []) hC 1 dX9_add_49 gX9_add_X9_asBytes rfl (by decide +kernel) ⟨Nat.le_of_ble_eq_true rfl, Nat.le_of_ble_eq_true rfl⟩ rfl (Nat.le_of_ble_eq_true rfl) ⟨(show 0 + 0 ≤ (rmC S (s_add S (nI pj) (nI qj)).2) by omega), (show 0 + 0 ≤ (rmS S (s_add S (nI pj) (nI qj)).2) by omega)⟩ (c2 := 0) (s2 := 0) rfl rfl (x_asBytes (some (b.1 6 (wh S qj))) 4 (Or.inr ⟨_, 5, _, rfl, (hx0.T hw_q rfl hb_q), Or.inr (Or.inr (Or.inr (Or.inl ⟨rfl, rfl⟩)))⟩)) ?_
          refine g_astore (lv' := [(5, .null), (4, .null), (3, .int (nI 2)), (0, .ref M), (1, .int (nI pj)), (2, .int (nI qj))]) hC dX9_add_52 (by decide) rfl (Or.inl rfl) ?_
          refine g_iload_n hC dX9_add_54 rfl 2 rfl ?_
          refine g_ifN_ne (a := 2) (tgt := 68) hC dX9_add_55 (by decide) (by omega) (fun h55 => ?_) (fun h55 => ?_)
          · refine g_aload_n hC dX9_add_68 rfl 3 rfl (Or.inr ⟨_, rfl⟩) ?_
            refine g_iload_n hC dX9_add_69 rfl 2 rfl ?_
            refine g_Vx (As := [.int (nI 2)]) (st := []) hC 1 dX9_add_70 rfl (hx0.M hM).1 (hx0.M hM).2 gX9_add_X9_failed rfl (by decide +kernel) ⟨Nat.le_of_ble_eq_true rfl, Nat.le_of_ble_eq_true rfl⟩ rfl (Nat.le_of_ble_eq_true rfl) ⟨(show 0 + 0 ≤ (rmC S (s_add S (nI pj) (nI qj)).2) by omega), (show 0 + 0 ≤ (rmS S (s_add S (nI pj) (nI qj)).2) by omega)⟩ (c2 := 0) (s2 := 0) rfl rfl (x_failed hx0 M hM 2) (fun v1 L1 f1 hp1 => ?_)
            obtain ⟨rfl, hx1⟩ := hp1
            show gW X vwCl 6 L1 f1 0 0 73 [(5, .null), (4, .null), (3, .int (nI 2)), (0, .ref M), (1, .int (nI pj)), (2, .int (nI qj))] [.int (fA 2)]
            have hc_p : castF S pj 4 = 2 := by unfold castF isO; rw [hk_p] <;> decide
            have hc_q : castF S qj 1 = 2 := by unfold castF isO; rw [hk_q] <;> decide
            have hbf : bthF S pj qj 1 = 2 := by unfold bthF; rw [hc_p, hc_q] <;> decide
            have hE : s_add S (nI pj) (nI qj) = (fA 2, (aSc (thS S) 1 2)) := by
              unfold s_add
              rw [if_pos h4, if_pos h11, hpl_p, hpl_q, hbf, if_pos (show 0 < 2 by decide)] <;> rfl
            refine g_widen (c2 := (rmC S (s_add S (nI pj) (nI qj)).2)) (s2 := (rmS S (s_add S (nI pj) (nI qj)).2)) (show 0 ≤ (rmC S (s_add S (nI pj) (nI qj)).2) by omega) (show 0 ≤ (rmS S (s_add S (nI pj) (nI qj)).2) by omega) ?_
            exact g_iret hC hR dX9_add_73 ⟨b, congrArg (fun z => some (Value.int (Prod.fst z))) hE.symm, by rw [hE]; exact hx1, xG.rf⟩
          · exfalso; omega
        · have hw_q : wh S qj < S.1 13 := hI.wt hqj (by omega)
          have hb_q : S.2.1 14 (wh S qj) ≠ 0 := by have := ((hI.2.1 _ hqj).2.2.2.2.2 (by omega)).2; omega
          have hp0_q : plcF (thS S) b qj = some (b.1 6 (wh S qj)) := plc_k hqj hk_q (by decide)
          refine g_aald hC 5 rfl (hx0.Mp rfl).1 (hx0.Mp rfl).2 (qj) rfl (show qj < 10 by omega) (by decide) dX9_add_27 ?_
          refine g_val (w := .ref (b.1 6 (wh S qj))) (congrArg va_rf hp0_q) ?_
          refine g_S (As := [.ref (b.1 4 (wh S pj)), .ref (b.1 6 (wh S qj))]) (st := []) hC 2 dX9_add_28 gX9_add_X9_lookFault rfl (by decide +kernel) ⟨Nat.le_of_ble_eq_true rfl, Nat.le_of_ble_eq_true rfl⟩ rfl (Nat.le_of_ble_eq_true rfl) ⟨(show 0 + 0 ≤ (rmC S (s_add S (nI pj) (nI qj)).2) by omega), (show 0 + 0 ≤ (rmS S (s_add S (nI pj) (nI qj)).2) by omega)⟩ (c2 := 0) (s2 := 0) rfl rfl (x_lookFault (some (b.1 4 (wh S pj))) (some (b.1 6 (wh S qj))) 3 5 (Or.inr ⟨_, 3, _, rfl, (hx0.W hw_p rfl), Or.inr (Or.inr (Or.inl ⟨rfl, rfl⟩))⟩) (Or.inr ⟨_, 1, _, rfl, (hx0.K hw_q rfl hb_q), Or.inr (Or.inr (Or.inr (Or.inr ⟨rfl, rfl⟩)))⟩)) ?_
          refine g_istore_n (lv' := [(3, .int (nI 2)), (0, .ref M), (1, .int (nI pj)), (2, .int (nI qj))]) hC dX9_add_31 rfl (by decide) rfl ?_
          refine g_aload_n hC dX9_add_32 rfl 1 rfl (Or.inr ⟨_, rfl⟩) ?_
          refine g_get hC (by decide +kernel) rfl (hx0.M hM).1 (hx0.M hM).2 0 (by decide) (by decide +kernel) (Or.inl rfl) rfl dX9_add_33 ?_
          refine g_iload_n hC dX9_add_36 rfl 2 rfl ?_
          refine g_aald hC 5 rfl (hx0.Mp rfl).1 (hx0.Mp rfl).2 (pj) rfl (show pj < 10 by omega) (by decide) dX9_add_37 ?_
          refine g_val (w := .ref (b.1 4 (wh S pj))) (congrArg va_rf hp0_p) ?_
          refine g_S (As := [.ref (b.1 4 (wh S pj))]) (st := []) hC 1 dX9_add_38 gX9_add_X9_asTable rfl (by decide +kernel) ⟨Nat.le_of_ble_eq_true rfl, Nat.le_of_ble_eq_true rfl⟩ rfl (Nat.le_of_ble_eq_true rfl) ⟨(show 0 + 0 ≤ (rmC S (s_add S (nI pj) (nI qj)).2) by omega), (show 0 + 0 ≤ (rmS S (s_add S (nI pj) (nI qj)).2) by omega)⟩ (c2 := 0) (s2 := 0) rfl rfl (x_asTable (some (b.1 4 (wh S pj))) 3 (Or.inr ⟨_, 3, _, rfl, (hx0.W hw_p rfl), Or.inr (Or.inr (Or.inl ⟨rfl, rfl⟩))⟩)) ?_
          refine g_astore (lv' := [(4, .null), (3, .int (nI 2)), (0, .ref M), (1, .int (nI pj)), (2, .int (nI qj))]) hC dX9_add_41 (by decide) rfl (Or.inl rfl) ?_
          refine g_aload_n hC dX9_add_43 rfl 2 rfl (Or.inr ⟨_, rfl⟩) ?_
          refine g_get hC (by decide +kernel) rfl (hx0.M hM).1 (hx0.M hM).2 0 (by decide) (by decide +kernel) (Or.inl rfl) rfl dX9_add_44 ?_
          refine g_iload_n hC dX9_add_47 rfl 4 rfl ?_
          refine g_aald hC 5 rfl (hx0.Mp rfl).1 (hx0.Mp rfl).2 (qj) rfl (show qj < 10 by omega) (by decide) dX9_add_48 ?_
          refine g_val (w := .ref (b.1 6 (wh S qj))) (congrArg va_rf hp0_q) ?_
          refine g_S (As := [.ref (b.1 6 (wh S qj))]) (st := []) hC 1 dX9_add_49 gX9_add_X9_asBytes rfl (by decide +kernel) ⟨Nat.le_of_ble_eq_true rfl, Nat.le_of_ble_eq_true rfl⟩ rfl (Nat.le_of_ble_eq_true rfl) ⟨(show 0 + 0 ≤ (rmC S (s_add S (nI pj) (nI qj)).2) by omega), (show 0 + 0 ≤ (rmS S (s_add S (nI pj) (nI qj)).2) by omega)⟩ (c2 := 0) (s2 := 0) rfl rfl (x_asBytes (some (b.1 6 (wh S qj))) 5 (Or.inr ⟨_, 1, _, rfl, (hx0.K hw_q rfl hb_q), Or.inr (Or.inr (Or.inr (Or.inr ⟨rfl, rfl⟩)))⟩)) ?_
          refine g_astore (lv' := [(5, .null), (4, .null), (3, .int (nI 2)), (0, .ref M), (1, .int (nI pj)), (2, .int (nI qj))]) hC dX9_add_52 (by decide) rfl (Or.inl rfl) ?_
          refine g_iload_n hC dX9_add_54 rfl 2 rfl ?_
          refine g_ifN_ne (a := 2) (tgt := 68) hC dX9_add_55 (by decide) (by omega) (fun h55 => ?_) (fun h55 => ?_)
          · refine g_aload_n hC dX9_add_68 rfl 3 rfl (Or.inr ⟨_, rfl⟩) ?_
            refine g_iload_n hC dX9_add_69 rfl 2 rfl ?_
            refine g_Vx (As := [.int (nI 2)]) (st := []) hC 1 dX9_add_70 rfl (hx0.M hM).1 (hx0.M hM).2 gX9_add_X9_failed rfl (by decide +kernel) ⟨Nat.le_of_ble_eq_true rfl, Nat.le_of_ble_eq_true rfl⟩ rfl (Nat.le_of_ble_eq_true rfl) ⟨(show 0 + 0 ≤ (rmC S (s_add S (nI pj) (nI qj)).2) by omega), (show 0 + 0 ≤ (rmS S (s_add S (nI pj) (nI qj)).2) by omega)⟩ (c2 := 0) (s2 := 0) rfl rfl (x_failed hx0 M hM 2) (fun v1 L1 f1 hp1 => ?_)
            obtain ⟨rfl, hx1⟩ := hp1
            show gW X vwCl 6 L1 f1 0 0 73 [(5, .null), (4, .null), (3, .int (nI 2)), (0, .ref M), (1, .int (nI pj)), (2, .int (nI qj))] [.int (fA 2)]
            have hc_p : castF S pj 4 = 2 := by unfold castF isO; rw [hk_p] <;> decide
            have hc_q : castF S qj 1 = 2 := by unfold castF isO; rw [hk_q] <;> decide
            have hbf : bthF S pj qj 1 = 2 := by unfold bthF; rw [hc_p, hc_q] <;> decide
            have hE : s_add S (nI pj) (nI qj) = (fA 2, (aSc (thS S) 1 2)) := by
              unfold s_add
              rw [if_pos h4, if_pos h11, hpl_p, hpl_q, hbf, if_pos (show 0 < 2 by decide)] <;> rfl
            refine g_widen (c2 := (rmC S (s_add S (nI pj) (nI qj)).2)) (s2 := (rmS S (s_add S (nI pj) (nI qj)).2)) (show 0 ≤ (rmC S (s_add S (nI pj) (nI qj)).2) by omega) (show 0 ≤ (rmS S (s_add S (nI pj) (nI qj)).2) by omega) ?_
            exact g_iret hC hR dX9_add_73 ⟨b, congrArg (fun z => some (Value.int (Prod.fst z))) hE.symm, by rw [hE]; exact hx1, xG.rf⟩
          · exfalso; omega
      · have hw_p : wh S pj < S.1 13 := hI.wt hpj (by omega)
        have hb_p : S.2.1 14 (wh S pj) = 0 := by have := ((hI.2.1 _ hpj).2.2.2.2.2 (by omega)).2; omega
        have hp0_p : plcF (thS S) b pj = some (b.1 6 (wh S pj)) := plc_k hpj hk_p (by decide)
        have htk := hI.tk hw_p
        have htm := htk.2.1
        have hts := htk.sl
        have htk0 := hI0.tk (show wh S pj < (thS S).1 13 from hw_p)
        refine g_aald hC 5 rfl (hx0.Mp rfl).1 (hx0.Mp rfl).2 (pj) rfl (show pj < 10 by omega) (by decide) dX9_add_21 ?_
        refine g_val (w := .ref (b.1 6 (wh S pj))) (congrArg va_rf hp0_p) ?_
        refine g_aload_n hC dX9_add_22 rfl 0 rfl (Or.inr ⟨_, rfl⟩) ?_
        refine g_get hC (by decide +kernel) rfl (hx0.M hM).1 (hx0.M hM).2 0 (by decide) (by decide +kernel) (Or.inl rfl) rfl dX9_add_23 ?_
        refine g_iload_n hC dX9_add_26 rfl 2 rfl ?_
        have h5_q := hI.k5 hqj
        rcases (show kd S qj = 0 ∨ kd S qj = 1 ∨ kd S qj = 2 ∨ kd S qj = 3 ∨ kd S qj = 4 ∨ kd S qj = 5 by omega) with hk_q | hk_q | hk_q | hk_q | hk_q | hk_q
        · have hp0_q : plcF (thS S) b qj = none := plc_0 hqj hk_q
          refine g_aald hC 5 rfl (hx0.Mp rfl).1 (hx0.Mp rfl).2 (qj) rfl (show qj < 10 by omega) (by decide) dX9_add_27 ?_
          refine g_val (w := .null) (congrArg va_rf hp0_q) ?_
          refine g_S (As := [.ref (b.1 6 (wh S pj)), .null]) (st := []) hC 2 dX9_add_28 gX9_add_X9_lookFault rfl (by decide +kernel) ⟨Nat.le_of_ble_eq_true rfl, Nat.le_of_ble_eq_true rfl⟩ rfl (Nat.le_of_ble_eq_true rfl) ⟨(show 0 + 0 ≤ (rmC S (s_add S (nI pj) (nI qj)).2) by omega), (show 0 + 0 ≤ (rmS S (s_add S (nI pj) (nI qj)).2) by omega)⟩ (c2 := 0) (s2 := 0) rfl rfl (x_lookFault (some (b.1 6 (wh S pj))) none 4 0 (Or.inr ⟨_, 5, _, rfl, (hx0.T hw_p rfl hb_p), Or.inr (Or.inr (Or.inr (Or.inl ⟨rfl, rfl⟩)))⟩) (Or.inl ⟨rfl, rfl⟩)) ?_
          refine g_istore_n (lv' := [(3, .int (nI 1)), (0, .ref M), (1, .int (nI pj)), (2, .int (nI qj))]) hC dX9_add_31 rfl (by decide) rfl ?_
          refine g_aload_n hC dX9_add_32 rfl 1 rfl (Or.inr ⟨_, rfl⟩) ?_
          refine g_get hC (by decide +kernel) rfl (hx0.M hM).1 (hx0.M hM).2 0 (by decide) (by decide +kernel) (Or.inl rfl) rfl dX9_add_33 ?_
          refine g_iload_n hC dX9_add_36 rfl 2 rfl ?_
          refine g_aald hC 5 rfl (hx0.Mp rfl).1 (hx0.Mp rfl).2 (pj) rfl (show pj < 10 by omega) (by decide) dX9_add_37 ?_
          refine g_val (w := .ref (b.1 6 (wh S pj))) (congrArg va_rf hp0_p) ?_
          refine g_S (As := [.ref (b.1 6 (wh S pj))]) (st := []) hC 1 dX9_add_38 gX9_add_X9_asTable rfl (by decide +kernel) ⟨Nat.le_of_ble_eq_true rfl, Nat.le_of_ble_eq_true rfl⟩ rfl (Nat.le_of_ble_eq_true rfl) ⟨(show 0 + 0 ≤ (rmC S (s_add S (nI pj) (nI qj)).2) by omega), (show 0 + 0 ≤ (rmS S (s_add S (nI pj) (nI qj)).2) by omega)⟩ (c2 := 0) (s2 := 0) rfl rfl (x_asTable (some (b.1 6 (wh S pj))) 4 (Or.inr ⟨_, 5, _, rfl, (hx0.T hw_p rfl hb_p), Or.inr (Or.inr (Or.inr (Or.inl ⟨rfl, rfl⟩)))⟩)) ?_
          refine g_astore (lv' := [(4, .ref (b.1 6 (wh S pj))), (3, .int (nI 1)), (0, .ref M), (1, .int (nI pj)), (2, .int (nI qj))]) hC dX9_add_41 (by decide) rfl (Or.inr ⟨_, rfl⟩) ?_
          refine g_aload_n hC dX9_add_43 rfl 2 rfl (Or.inr ⟨_, rfl⟩) ?_
          refine g_get hC (by decide +kernel) rfl (hx0.M hM).1 (hx0.M hM).2 0 (by decide) (by decide +kernel) (Or.inl rfl) rfl dX9_add_44 ?_
          refine g_iload_n hC dX9_add_47 rfl 4 rfl ?_
          refine g_aald hC 5 rfl (hx0.Mp rfl).1 (hx0.Mp rfl).2 (qj) rfl (show qj < 10 by omega) (by decide) dX9_add_48 ?_
          refine g_val (w := .null) (congrArg va_rf hp0_q) ?_
          refine g_S (As := [.null]) (st := []) hC 1 dX9_add_49 gX9_add_X9_asBytes rfl (by decide +kernel) ⟨Nat.le_of_ble_eq_true rfl, Nat.le_of_ble_eq_true rfl⟩ rfl (Nat.le_of_ble_eq_true rfl) ⟨(show 0 + 0 ≤ (rmC S (s_add S (nI pj) (nI qj)).2) by omega), (show 0 + 0 ≤ (rmS S (s_add S (nI pj) (nI qj)).2) by omega)⟩ (c2 := 0) (s2 := 0) rfl rfl (x_asBytes none 0 (Or.inl ⟨rfl, rfl⟩)) ?_
          refine g_astore (lv' := [(5, .null), (4, .ref (b.1 6 (wh S pj))), (3, .int (nI 1)), (0, .ref M), (1, .int (nI pj)), (2, .int (nI qj))]) hC dX9_add_52 (by decide) rfl (Or.inl rfl) ?_
          refine g_iload_n hC dX9_add_54 rfl 2 rfl ?_
          refine g_ifN_ne (a := 1) (tgt := 68) hC dX9_add_55 (by decide) (by omega) (fun h55 => ?_) (fun h55 => ?_)
          · refine g_aload_n hC dX9_add_68 rfl 3 rfl (Or.inr ⟨_, rfl⟩) ?_
            refine g_iload_n hC dX9_add_69 rfl 2 rfl ?_
            refine g_Vx (As := [.int (nI 1)]) (st := []) hC 1 dX9_add_70 rfl (hx0.M hM).1 (hx0.M hM).2 gX9_add_X9_failed rfl (by decide +kernel) ⟨Nat.le_of_ble_eq_true rfl, Nat.le_of_ble_eq_true rfl⟩ rfl (Nat.le_of_ble_eq_true rfl) ⟨(show 0 + 0 ≤ (rmC S (s_add S (nI pj) (nI qj)).2) by omega), (show 0 + 0 ≤ (rmS S (s_add S (nI pj) (nI qj)).2) by omega)⟩ (c2 := 0) (s2 := 0) rfl rfl (x_failed hx0 M hM 1) (fun v1 L1 f1 hp1 => ?_)
            obtain ⟨rfl, hx1⟩ := hp1
            show gW X vwCl 6 L1 f1 0 0 73 [(5, .null), (4, .ref (b.1 6 (wh S pj))), (3, .int (nI 1)), (0, .ref M), (1, .int (nI pj)), (2, .int (nI qj))] [.int (fA 1)]
            have hc_p : castF S pj 4 = 0 := by unfold castF isO; rw [hk_p] <;> decide
            have hc_q : castF S qj 1 = 1 := by unfold castF isO; rw [hk_q] <;> decide
            have hbf : bthF S pj qj 1 = 1 := by unfold bthF; rw [hc_p, hc_q] <;> decide
            have hE : s_add S (nI pj) (nI qj) = (fA 1, (aSc (thS S) 1 1)) := by
              unfold s_add
              rw [if_pos h4, if_pos h11, hpl_p, hpl_q, hbf, if_pos (show 0 < 1 by decide)] <;> rfl
            refine g_widen (c2 := (rmC S (s_add S (nI pj) (nI qj)).2)) (s2 := (rmS S (s_add S (nI pj) (nI qj)).2)) (show 0 ≤ (rmC S (s_add S (nI pj) (nI qj)).2) by omega) (show 0 ≤ (rmS S (s_add S (nI pj) (nI qj)).2) by omega) ?_
            exact g_iret hC hR dX9_add_73 ⟨b, congrArg (fun z => some (Value.int (Prod.fst z))) hE.symm, by rw [hE]; exact hx1, xG.rf⟩
          · exfalso; omega
        · have hw_q : wh S qj < S.1 4 := hI.wl hqj hk_q
          have hp0_q : plcF (thS S) b qj = some (b.1 0 (wh S qj)) := plc_k hqj hk_q (by decide)
          refine g_aald hC 5 rfl (hx0.Mp rfl).1 (hx0.Mp rfl).2 (qj) rfl (show qj < 10 by omega) (by decide) dX9_add_27 ?_
          refine g_val (w := .ref (b.1 0 (wh S qj))) (congrArg va_rf hp0_q) ?_
          refine g_S (As := [.ref (b.1 6 (wh S pj)), .ref (b.1 0 (wh S qj))]) (st := []) hC 2 dX9_add_28 gX9_add_X9_lookFault rfl (by decide +kernel) ⟨Nat.le_of_ble_eq_true rfl, Nat.le_of_ble_eq_true rfl⟩ rfl (Nat.le_of_ble_eq_true rfl) ⟨(show 0 + 0 ≤ (rmC S (s_add S (nI pj) (nI qj)).2) by omega), (show 0 + 0 ≤ (rmS S (s_add S (nI pj) (nI qj)).2) by omega)⟩ (c2 := 0) (s2 := 0) rfl rfl (x_lookFault (some (b.1 6 (wh S pj))) (some (b.1 0 (wh S qj))) 4 1 (Or.inr ⟨_, 5, _, rfl, (hx0.T hw_p rfl hb_p), Or.inr (Or.inr (Or.inr (Or.inl ⟨rfl, rfl⟩)))⟩) (Or.inr ⟨_, 0, _, rfl, (hx0.B hw_q rfl), Or.inl ⟨rfl, rfl⟩⟩)) ?_
          refine g_istore_n (lv' := [(3, .int (nI 0)), (0, .ref M), (1, .int (nI pj)), (2, .int (nI qj))]) hC dX9_add_31 rfl (by decide) rfl ?_
          refine g_aload_n hC dX9_add_32 rfl 1 rfl (Or.inr ⟨_, rfl⟩) ?_
          refine g_get hC (by decide +kernel) rfl (hx0.M hM).1 (hx0.M hM).2 0 (by decide) (by decide +kernel) (Or.inl rfl) rfl dX9_add_33 ?_
          refine g_iload_n hC dX9_add_36 rfl 2 rfl ?_
          refine g_aald hC 5 rfl (hx0.Mp rfl).1 (hx0.Mp rfl).2 (pj) rfl (show pj < 10 by omega) (by decide) dX9_add_37 ?_
          refine g_val (w := .ref (b.1 6 (wh S pj))) (congrArg va_rf hp0_p) ?_
          refine g_S (As := [.ref (b.1 6 (wh S pj))]) (st := []) hC 1 dX9_add_38 gX9_add_X9_asTable rfl (by decide +kernel) ⟨Nat.le_of_ble_eq_true rfl, Nat.le_of_ble_eq_true rfl⟩ rfl (Nat.le_of_ble_eq_true rfl) ⟨(show 0 + 0 ≤ (rmC S (s_add S (nI pj) (nI qj)).2) by omega), (show 0 + 0 ≤ (rmS S (s_add S (nI pj) (nI qj)).2) by omega)⟩ (c2 := 0) (s2 := 0) rfl rfl (x_asTable (some (b.1 6 (wh S pj))) 4 (Or.inr ⟨_, 5, _, rfl, (hx0.T hw_p rfl hb_p), Or.inr (Or.inr (Or.inr (Or.inl ⟨rfl, rfl⟩)))⟩)) ?_
          refine g_astore (lv' := [(4, .ref (b.1 6 (wh S pj))), (3, .int (nI 0)), (0, .ref M), (1, .int (nI pj)), (2, .int (nI qj))]) hC dX9_add_41 (by decide) rfl (Or.inr ⟨_, rfl⟩) ?_
          refine g_aload_n hC dX9_add_43 rfl 2 rfl (Or.inr ⟨_, rfl⟩) ?_
          refine g_get hC (by decide +kernel) rfl (hx0.M hM).1 (hx0.M hM).2 0 (by decide) (by decide +kernel) (Or.inl rfl) rfl dX9_add_44 ?_
          refine g_iload_n hC dX9_add_47 rfl 4 rfl ?_
          refine g_aald hC 5 rfl (hx0.Mp rfl).1 (hx0.Mp rfl).2 (qj) rfl (show qj < 10 by omega) (by decide) dX9_add_48 ?_
          refine g_val (w := .ref (b.1 0 (wh S qj))) (congrArg va_rf hp0_q) ?_
          refine g_S (As := [.ref (b.1 0 (wh S qj))]) (st := []) hC 1 dX9_add_49 gX9_add_X9_asBytes rfl (by decide +kernel) ⟨Nat.le_of_ble_eq_true rfl, Nat.le_of_ble_eq_true rfl⟩ rfl (Nat.le_of_ble_eq_true rfl) ⟨(show 0 + 0 ≤ (rmC S (s_add S (nI pj) (nI qj)).2) by omega), (show 0 + 0 ≤ (rmS S (s_add S (nI pj) (nI qj)).2) by omega)⟩ (c2 := 0) (s2 := 0) rfl rfl (x_asBytes (some (b.1 0 (wh S qj))) 1 (Or.inr ⟨_, 0, _, rfl, (hx0.B hw_q rfl), Or.inl ⟨rfl, rfl⟩⟩)) ?_
          refine g_astore (lv' := [(5, .ref (b.1 0 (wh S qj))), (4, .ref (b.1 6 (wh S pj))), (3, .int (nI 0)), (0, .ref M), (1, .int (nI pj)), (2, .int (nI qj))]) hC dX9_add_52 (by decide) rfl (Or.inr ⟨_, rfl⟩) ?_
          refine g_iload_n hC dX9_add_54 rfl 2 rfl ?_
          refine g_ifN_ne (a := 0) (tgt := 68) hC dX9_add_55 (by decide) (by omega) (fun h55 => ?_) (fun h55 => ?_)
          · exfalso; omega
          · refine g_aload hC dX9_add_58 1 rfl (Or.inr ⟨_, rfl⟩) ?_
            refine g_ifnull (o := some (b.1 6 (wh S pj))) (tgt := 68) hC dX9_add_60 (by decide) (fun h60 => ?_) (fun a60 h60 => ?_)
            · cases h60
            · refine g_aload hC dX9_add_63 0 rfl (Or.inr ⟨_, rfl⟩) ?_
              refine g_ifnonnull (o := some (b.1 0 (wh S qj))) (tgt := 74) hC dX9_add_65 (by decide) (fun a65 h65 => ?_) (fun h65 => ?_)
              · refine g_aload_n hC dX9_add_74 rfl 3 rfl (Or.inr ⟨_, rfl⟩) ?_
                refine g_aload hC dX9_add_75 1 rfl (Or.inr ⟨_, rfl⟩) ?_
                refine g_aload hC dX9_add_77 1 rfl (Or.inr ⟨_, rfl⟩) ?_
                refine g_aload hC dX9_add_79 0 rfl (Or.inr ⟨_, rfl⟩) ?_
                have hc_p : castF S pj 4 = 0 := by unfold castF isO; rw [hk_p] <;> decide
                have hc_q : castF S qj 1 = 0 := by unfold castF isO; rw [hk_q] <;> decide
                have hbf : bthF S pj qj 1 = 0 := by unfold bthF; rw [hc_p, hc_q] <;> decide
                have hE0 : s_add S (nI pj) (nI qj) = comS (thS S) (wh S pj) (wh S qj) := by
                  unfold s_add
                  rw [if_pos h4, if_pos h11, hpl_p, hpl_q, hbf, if_neg (show ¬ 0 < 0 by decide)]
                have hrm : rmC (thS S) (comA (thS S) (wh S pj) (wh S qj)).2 = rmC S (s_add S (nI pj) (nI qj)).2 ∧ rmS (thS S) (comA (thS S) (wh S pj) (wh S qj)).2 = rmS S (s_add S (nI pj) (nI qj)).2 := by
                  rw [hE0, com_A]
                  exact rm_cg rfl rfl rfl rfl rfl rfl rfl rfl
                have hcf := comA_f (S := thS S) (t := wh S pj) hI0 (show wh S qj < (thS S).1 4 from hw_q)
                have htZ : wh S pj < (comA (thS S) (wh S pj) (wh S qj)).2.1 13 := by rw [hcf.1 13 (by decide) (by decide)]; exact hw_p
                have hkZ : (comA (thS S) (wh S pj) (wh S qj)).2.2.1 14 (wh S pj) = 0 := by rw [hcf.2.1]; exact hb_p
                refine g_Vx (As := [.ref (b.1 0 (wh S qj))]) (st := [.ref (b.1 6 (wh S pj)), .ref M]) hC 1 dX9_add_81 rfl (hx0.T hw_p rfl hb_p).1 (hx0.T hw_p rfl hb_p).2 gX9_add_X7_admit rfl (by decide +kernel) ⟨Nat.le_of_ble_eq_true rfl, Nat.le_of_ble_eq_true rfl⟩ rfl (Nat.le_of_ble_eq_true rfl) ⟨(show 0 + (rmC (thS S) (comA (thS S) (wh S pj) (wh S qj)).2) ≤ (rmC S (s_add S (nI pj) (nI qj)).2) by omega), (show 0 + (rmS (thS S) (comA (thS S) (wh S pj) (wh S qj)).2) ≤ (rmS S (s_add S (nI pj) (nI qj)).2) by omega)⟩ (c2 := (0 + (rmC (thS S) (comA (thS S) (wh S pj) (wh S qj)).2))) (s2 := (0 + (rmS (thS S) (comA (thS S) (wh S pj) (wh S qj)).2))) rfl rfl (x_admit_T (S := thS S) hx0 hI0 hb _ _ hw_p rfl hb_p _ _ hw_q rfl) (fun v1 L1 f1 hp1 => ?_)
                obtain ⟨b1, rfl, hx1, hg1⟩ := hp1
                show gW X vwCl 6 L1 f1 (0 + (rmC (thS S) (comA (thS S) (wh S pj) (wh S qj)).2)) (0 + (rmS (thS S) (comA (thS S) (wh S pj) (wh S qj)).2)) 84 [(5, .ref (b.1 0 (wh S qj))), (4, .ref (b.1 6 (wh S pj))), (3, .int (nI 0)), (0, .ref M), (1, .int (nI pj)), (2, .int (nI qj))] [.int ((comA (thS S) (wh S pj) (wh S qj)).1), .ref (b.1 6 (wh S pj)), .ref M]
                have hlb := lk_b (S := thS S) (r := wh S qj) htk0
                have hlb : (lk (thS S) (wh S pj) (wh S qj)).2 ≤ S.2.1 15 (wh S pj) := hlb
                refine g_Vx (As := [.ref (b.1 6 (wh S pj)), .int ((comA (thS S) (wh S pj) (wh S qj)).1)]) (st := []) hC 2 dX9_add_84 rfl (hx1.M ((hg1 9 0 (by decide) (by decide) (show 0 < 4 by decide)).trans hM)).1 (hx1.M ((hg1 9 0 (by decide) (by decide) (show 0 < 4 by decide)).trans hM)).2 gX9_add_X9_counted rfl (by decide +kernel) ⟨Nat.le_of_ble_eq_true rfl, Nat.le_of_ble_eq_true rfl⟩ rfl (Nat.le_of_ble_eq_true rfl) ⟨(show (0 + (rmC (thS S) (comA (thS S) (wh S pj) (wh S qj)).2)) + 0 ≤ (rmC S (s_add S (nI pj) (nI qj)).2) by omega), (show (0 + (rmS (thS S) (comA (thS S) (wh S pj) (wh S qj)).2)) + 0 ≤ (rmS S (s_add S (nI pj) (nI qj)).2) by omega)⟩ (c2 := (0 + (rmC (thS S) (comA (thS S) (wh S pj) (wh S qj)).2))) (s2 := (0 + (rmS (thS S) (comA (thS S) (wh S pj) (wh S qj)).2))) rfl rfl (x_counted_T (S := (comA (thS S) (wh S pj) (wh S qj)).2) hx1 M ((hg1 9 0 (by decide) (by decide) (show 0 < 4 by decide)).trans hM) _ _ htZ ((hg1 6 (wh S pj) (by decide) (by decide) hw_p).trans rfl) hkZ _ (by rw [hcf.2.2.1]; omega)) (fun v2 L2 f2 hp2 => ?_)
                obtain ⟨rfl, hx2⟩ := hp2
                show gW X vwCl 6 L2 f2 (0 + (rmC (thS S) (comA (thS S) (wh S pj) (wh S qj)).2)) (0 + (rmS (thS S) (comA (thS S) (wh S pj) (wh S qj)).2)) 87 [(5, .ref (b.1 0 (wh S qj))), (4, .ref (b.1 6 (wh S pj))), (3, .int (nI 0)), (0, .ref M), (1, .int (nI pj)), (2, .int (nI qj))] [.int ((comA (thS S) (wh S pj) (wh S qj)).1)]
                rw [hcf.1 23 (by decide) (by decide), hcf.1 24 (by decide) (by decide), hcf.2.2.1] at hx2
                have hE := hE0.trans com_A
                refine g_widen (c2 := (rmC S (s_add S (nI pj) (nI qj)).2)) (s2 := (rmS S (s_add S (nI pj) (nI qj)).2)) (show (0 + (rmC (thS S) (comA (thS S) (wh S pj) (wh S qj)).2)) ≤ (rmC S (s_add S (nI pj) (nI qj)).2) by omega) (show (0 + (rmS (thS S) (comA (thS S) (wh S pj) (wh S qj)).2)) ≤ (rmS S (s_add S (nI pj) (nI qj)).2) by omega) ?_
                exact g_iret hC hR dX9_add_87 ⟨b1, by show some (Value.int _) = some (Value.int (s_add S (nI pj) (nI qj)).1); rw [hE], by rw [hE]; exact hx2, hg1⟩
              · cases h65
        · have hw_q : wh S qj < S.1 7 := hI.ws hqj hk_q
          have hp0_q : plcF (thS S) b qj = some (b.1 2 (wh S qj)) := plc_k hqj hk_q (by decide)
          refine g_aald hC 5 rfl (hx0.Mp rfl).1 (hx0.Mp rfl).2 (qj) rfl (show qj < 10 by omega) (by decide) dX9_add_27 ?_
          refine g_val (w := .ref (b.1 2 (wh S qj))) (congrArg va_rf hp0_q) ?_
          refine g_S (As := [.ref (b.1 6 (wh S pj)), .ref (b.1 2 (wh S qj))]) (st := []) hC 2 dX9_add_28 gX9_add_X9_lookFault rfl (by decide +kernel) ⟨Nat.le_of_ble_eq_true rfl, Nat.le_of_ble_eq_true rfl⟩ rfl (Nat.le_of_ble_eq_true rfl) ⟨(show 0 + 0 ≤ (rmC S (s_add S (nI pj) (nI qj)).2) by omega), (show 0 + 0 ≤ (rmS S (s_add S (nI pj) (nI qj)).2) by omega)⟩ (c2 := 0) (s2 := 0) rfl rfl (x_lookFault (some (b.1 6 (wh S pj))) (some (b.1 2 (wh S qj))) 4 2 (Or.inr ⟨_, 5, _, rfl, (hx0.T hw_p rfl hb_p), Or.inr (Or.inr (Or.inr (Or.inl ⟨rfl, rfl⟩)))⟩) (Or.inr ⟨_, 4, _, rfl, (hx0.G hw_q rfl), Or.inr (Or.inl ⟨rfl, rfl⟩)⟩)) ?_
          refine g_istore_n (lv' := [(3, .int (nI 2)), (0, .ref M), (1, .int (nI pj)), (2, .int (nI qj))]) hC dX9_add_31 rfl (by decide) rfl ?_
          refine g_aload_n hC dX9_add_32 rfl 1 rfl (Or.inr ⟨_, rfl⟩) ?_
          refine g_get hC (by decide +kernel) rfl (hx0.M hM).1 (hx0.M hM).2 0 (by decide) (by decide +kernel) (Or.inl rfl) rfl dX9_add_33 ?_
          refine g_iload_n hC dX9_add_36 rfl 2 rfl ?_
          refine g_aald hC 5 rfl (hx0.Mp rfl).1 (hx0.Mp rfl).2 (pj) rfl (show pj < 10 by omega) (by decide) dX9_add_37 ?_
          refine g_val (w := .ref (b.1 6 (wh S pj))) (congrArg va_rf hp0_p) ?_
          refine g_S (As := [.ref (b.1 6 (wh S pj))]) (st := []) hC 1 dX9_add_38 gX9_add_X9_asTable rfl (by decide +kernel) ⟨Nat.le_of_ble_eq_true rfl, Nat.le_of_ble_eq_true rfl⟩ rfl (Nat.le_of_ble_eq_true rfl) ⟨(show 0 + 0 ≤ (rmC S (s_add S (nI pj) (nI qj)).2) by omega), (show 0 + 0 ≤ (rmS S (s_add S (nI pj) (nI qj)).2) by omega)⟩ (c2 := 0) (s2 := 0) rfl rfl (x_asTable (some (b.1 6 (wh S pj))) 4 (Or.inr ⟨_, 5, _, rfl, (hx0.T hw_p rfl hb_p), Or.inr (Or.inr (Or.inr (Or.inl ⟨rfl, rfl⟩)))⟩)) ?_
          refine g_astore (lv' := [(4, .ref (b.1 6 (wh S pj))), (3, .int (nI 2)), (0, .ref M), (1, .int (nI pj)), (2, .int (nI qj))]) hC dX9_add_41 (by decide) rfl (Or.inr ⟨_, rfl⟩) ?_
          refine g_aload_n hC dX9_add_43 rfl 2 rfl (Or.inr ⟨_, rfl⟩) ?_
          refine g_get hC (by decide +kernel) rfl (hx0.M hM).1 (hx0.M hM).2 0 (by decide) (by decide +kernel) (Or.inl rfl) rfl dX9_add_44 ?_
          refine g_iload_n hC dX9_add_47 rfl 4 rfl ?_
          refine g_aald hC 5 rfl (hx0.Mp rfl).1 (hx0.Mp rfl).2 (qj) rfl (show qj < 10 by omega) (by decide) dX9_add_48 ?_
          refine g_val (w := .ref (b.1 2 (wh S qj))) (congrArg va_rf hp0_q) ?_
          refine g_S (As := [.ref (b.1 2 (wh S qj))]) (st := []) hC 1 dX9_add_49 gX9_add_X9_asBytes rfl (by decide +kernel) ⟨Nat.le_of_ble_eq_true rfl, Nat.le_of_ble_eq_true rfl⟩ rfl (Nat.le_of_ble_eq_true rfl) ⟨(show 0 + 0 ≤ (rmC S (s_add S (nI pj) (nI qj)).2) by omega), (show 0 + 0 ≤ (rmS S (s_add S (nI pj) (nI qj)).2) by omega)⟩ (c2 := 0) (s2 := 0) rfl rfl (x_asBytes (some (b.1 2 (wh S qj))) 2 (Or.inr ⟨_, 4, _, rfl, (hx0.G hw_q rfl), Or.inr (Or.inl ⟨rfl, rfl⟩)⟩)) ?_
          refine g_astore (lv' := [(5, .null), (4, .ref (b.1 6 (wh S pj))), (3, .int (nI 2)), (0, .ref M), (1, .int (nI pj)), (2, .int (nI qj))]) hC dX9_add_52 (by decide) rfl (Or.inl rfl) ?_
          refine g_iload_n hC dX9_add_54 rfl 2 rfl ?_
          refine g_ifN_ne (a := 2) (tgt := 68) hC dX9_add_55 (by decide) (by omega) (fun h55 => ?_) (fun h55 => ?_)
          · refine g_aload_n hC dX9_add_68 rfl 3 rfl (Or.inr ⟨_, rfl⟩) ?_
            refine g_iload_n hC dX9_add_69 rfl 2 rfl ?_
            refine g_Vx (As := [.int (nI 2)]) (st := []) hC 1 dX9_add_70 rfl (hx0.M hM).1 (hx0.M hM).2 gX9_add_X9_failed rfl (by decide +kernel) ⟨Nat.le_of_ble_eq_true rfl, Nat.le_of_ble_eq_true rfl⟩ rfl (Nat.le_of_ble_eq_true rfl) ⟨(show 0 + 0 ≤ (rmC S (s_add S (nI pj) (nI qj)).2) by omega), (show 0 + 0 ≤ (rmS S (s_add S (nI pj) (nI qj)).2) by omega)⟩ (c2 := 0) (s2 := 0) rfl rfl (x_failed hx0 M hM 2) (fun v1 L1 f1 hp1 => ?_)
            obtain ⟨rfl, hx1⟩ := hp1
            show gW X vwCl 6 L1 f1 0 0 73 [(5, .null), (4, .ref (b.1 6 (wh S pj))), (3, .int (nI 2)), (0, .ref M), (1, .int (nI pj)), (2, .int (nI qj))] [.int (fA 2)]
            have hc_p : castF S pj 4 = 0 := by unfold castF isO; rw [hk_p] <;> decide
            have hc_q : castF S qj 1 = 2 := by unfold castF isO; rw [hk_q] <;> decide
            have hbf : bthF S pj qj 1 = 2 := by unfold bthF; rw [hc_p, hc_q] <;> decide
            have hE : s_add S (nI pj) (nI qj) = (fA 2, (aSc (thS S) 1 2)) := by
              unfold s_add
              rw [if_pos h4, if_pos h11, hpl_p, hpl_q, hbf, if_pos (show 0 < 2 by decide)] <;> rfl
            refine g_widen (c2 := (rmC S (s_add S (nI pj) (nI qj)).2)) (s2 := (rmS S (s_add S (nI pj) (nI qj)).2)) (show 0 ≤ (rmC S (s_add S (nI pj) (nI qj)).2) by omega) (show 0 ≤ (rmS S (s_add S (nI pj) (nI qj)).2) by omega) ?_
            exact g_iret hC hR dX9_add_73 ⟨b, congrArg (fun z => some (Value.int (Prod.fst z))) hE.symm, by rw [hE]; exact hx1, xG.rf⟩
          · exfalso; omega
        · have hw_q : wh S qj < S.1 10 := hI.wr hqj hk_q
          have hp0_q : plcF (thS S) b qj = some (b.1 4 (wh S qj)) := plc_k hqj hk_q (by decide)
          refine g_aald hC 5 rfl (hx0.Mp rfl).1 (hx0.Mp rfl).2 (qj) rfl (show qj < 10 by omega) (by decide) dX9_add_27 ?_
          refine g_val (w := .ref (b.1 4 (wh S qj))) (congrArg va_rf hp0_q) ?_
          refine g_S (As := [.ref (b.1 6 (wh S pj)), .ref (b.1 4 (wh S qj))]) (st := []) hC 2 dX9_add_28 gX9_add_X9_lookFault rfl (by decide +kernel) ⟨Nat.le_of_ble_eq_true rfl, Nat.le_of_ble_eq_true rfl⟩ rfl (Nat.le_of_ble_eq_true rfl) ⟨(show 0 + 0 ≤ (rmC S (s_add S (nI pj) (nI qj)).2) by omega), (show 0 + 0 ≤ (rmS S (s_add S (nI pj) (nI qj)).2) by omega)⟩ (c2 := 0) (s2 := 0) rfl rfl (x_lookFault (some (b.1 6 (wh S pj))) (some (b.1 4 (wh S qj))) 4 3 (Or.inr ⟨_, 5, _, rfl, (hx0.T hw_p rfl hb_p), Or.inr (Or.inr (Or.inr (Or.inl ⟨rfl, rfl⟩)))⟩) (Or.inr ⟨_, 3, _, rfl, (hx0.W hw_q rfl), Or.inr (Or.inr (Or.inl ⟨rfl, rfl⟩))⟩)) ?_
          refine g_istore_n (lv' := [(3, .int (nI 2)), (0, .ref M), (1, .int (nI pj)), (2, .int (nI qj))]) hC dX9_add_31 rfl (by decide) rfl ?_
          refine g_aload_n hC dX9_add_32 rfl 1 rfl (Or.inr ⟨_, rfl⟩) ?_
          refine g_get hC (by decide +kernel) rfl (hx0.M hM).1 (hx0.M hM).2 0 (by decide) (by decide +kernel) (Or.inl rfl) rfl dX9_add_33 ?_
          refine g_iload_n hC dX9_add_36 rfl 2 rfl ?_
          refine g_aald hC 5 rfl (hx0.Mp rfl).1 (hx0.Mp rfl).2 (pj) rfl (show pj < 10 by omega) (by decide) dX9_add_37 ?_
          refine g_val (w := .ref (b.1 6 (wh S pj))) (congrArg va_rf hp0_p) ?_
          refine g_S (As := [.ref (b.1 6 (wh S pj))]) (st := []) hC 1 dX9_add_38 gX9_add_X9_asTable rfl (by decide +kernel) ⟨Nat.le_of_ble_eq_true rfl, Nat.le_of_ble_eq_true rfl⟩ rfl (Nat.le_of_ble_eq_true rfl) ⟨(show 0 + 0 ≤ (rmC S (s_add S (nI pj) (nI qj)).2) by omega), (show 0 + 0 ≤ (rmS S (s_add S (nI pj) (nI qj)).2) by omega)⟩ (c2 := 0) (s2 := 0) rfl rfl (x_asTable (some (b.1 6 (wh S pj))) 4 (Or.inr ⟨_, 5, _, rfl, (hx0.T hw_p rfl hb_p), Or.inr (Or.inr (Or.inr (Or.inl ⟨rfl, rfl⟩)))⟩)) ?_
          refine g_astore (lv' := [(4, .ref (b.1 6 (wh S pj))), (3, .int (nI 2)), (0, .ref M), (1, .int (nI pj)), (2, .int (nI qj))]) hC dX9_add_41 (by decide) rfl (Or.inr ⟨_, rfl⟩) ?_
          refine g_aload_n hC dX9_add_43 rfl 2 rfl (Or.inr ⟨_, rfl⟩) ?_
          refine g_get hC (by decide +kernel) rfl (hx0.M hM).1 (hx0.M hM).2 0 (by decide) (by decide +kernel) (Or.inl rfl) rfl dX9_add_44 ?_
          refine g_iload_n hC dX9_add_47 rfl 4 rfl ?_
          refine g_aald hC 5 rfl (hx0.Mp rfl).1 (hx0.Mp rfl).2 (qj) rfl (show qj < 10 by omega) (by decide) dX9_add_48 ?_
          refine g_val (w := .ref (b.1 4 (wh S qj))) (congrArg va_rf hp0_q) ?_
          refine g_S (As := [.ref (b.1 4 (wh S qj))]) (st := []) hC 1 dX9_add_49 gX9_add_X9_asBytes rfl (by decide +kernel) ⟨Nat.le_of_ble_eq_true rfl, Nat.le_of_ble_eq_true rfl⟩ rfl (Nat.le_of_ble_eq_true rfl) ⟨(show 0 + 0 ≤ (rmC S (s_add S (nI pj) (nI qj)).2) by omega), (show 0 + 0 ≤ (rmS S (s_add S (nI pj) (nI qj)).2) by omega)⟩ (c2 := 0) (s2 := 0) rfl rfl (x_asBytes (some (b.1 4 (wh S qj))) 3 (Or.inr ⟨_, 3, _, rfl, (hx0.W hw_q rfl), Or.inr (Or.inr (Or.inl ⟨rfl, rfl⟩))⟩)) ?_
          refine g_astore (lv' := [(5, .null), (4, .ref (b.1 6 (wh S pj))), (3, .int (nI 2)), (0, .ref M), (1, .int (nI pj)), (2, .int (nI qj))]) hC dX9_add_52 (by decide) rfl (Or.inl rfl) ?_
          refine g_iload_n hC dX9_add_54 rfl 2 rfl ?_
          refine g_ifN_ne (a := 2) (tgt := 68) hC dX9_add_55 (by decide) (by omega) (fun h55 => ?_) (fun h55 => ?_)
          · refine g_aload_n hC dX9_add_68 rfl 3 rfl (Or.inr ⟨_, rfl⟩) ?_
            refine g_iload_n hC dX9_add_69 rfl 2 rfl ?_
            refine g_Vx (As := [.int (nI 2)]) (st := []) hC 1 dX9_add_70 rfl (hx0.M hM).1 (hx0.M hM).2 gX9_add_X9_failed rfl (by decide +kernel) ⟨Nat.le_of_ble_eq_true rfl, Nat.le_of_ble_eq_true rfl⟩ rfl (Nat.le_of_ble_eq_true rfl) ⟨(show 0 + 0 ≤ (rmC S (s_add S (nI pj) (nI qj)).2) by omega), (show 0 + 0 ≤ (rmS S (s_add S (nI pj) (nI qj)).2) by omega)⟩ (c2 := 0) (s2 := 0) rfl rfl (x_failed hx0 M hM 2) (fun v1 L1 f1 hp1 => ?_)
            obtain ⟨rfl, hx1⟩ := hp1
            show gW X vwCl 6 L1 f1 0 0 73 [(5, .null), (4, .ref (b.1 6 (wh S pj))), (3, .int (nI 2)), (0, .ref M), (1, .int (nI pj)), (2, .int (nI qj))] [.int (fA 2)]
            have hc_p : castF S pj 4 = 0 := by unfold castF isO; rw [hk_p] <;> decide
            have hc_q : castF S qj 1 = 2 := by unfold castF isO; rw [hk_q] <;> decide
            have hbf : bthF S pj qj 1 = 2 := by unfold bthF; rw [hc_p, hc_q] <;> decide
            have hE : s_add S (nI pj) (nI qj) = (fA 2, (aSc (thS S) 1 2)) := by
              unfold s_add
              rw [if_pos h4, if_pos h11, hpl_p, hpl_q, hbf, if_pos (show 0 < 2 by decide)] <;> rfl
            refine g_widen (c2 := (rmC S (s_add S (nI pj) (nI qj)).2)) (s2 := (rmS S (s_add S (nI pj) (nI qj)).2)) (show 0 ≤ (rmC S (s_add S (nI pj) (nI qj)).2) by omega) (show 0 ≤ (rmS S (s_add S (nI pj) (nI qj)).2) by omega) ?_
            exact g_iret hC hR dX9_add_73 ⟨b, congrArg (fun z => some (Value.int (Prod.fst z))) hE.symm, by rw [hE]; exact hx1, xG.rf⟩
          · exfalso; omega
        · have hw_q : wh S qj < S.1 13 := hI.wt hqj (by omega)
          have hb_q : S.2.1 14 (wh S qj) = 0 := by have := ((hI.2.1 _ hqj).2.2.2.2.2 (by omega)).2; omega
          have hp0_q : plcF (thS S) b qj = some (b.1 6 (wh S qj)) := plc_k hqj hk_q (by decide)
          refine g_aald hC 5 rfl (hx0.Mp rfl).1 (hx0.Mp rfl).2 (qj) rfl (show qj < 10 by omega) (by decide) dX9_add_27 ?_
          refine g_val (w := .ref (b.1 6 (wh S qj))) (congrArg va_rf hp0_q) ?_
          refine g_S (As := [.ref (b.1 6 (wh S pj)), .ref (b.1 6 (wh S qj))]) (st := []) hC 2 dX9_add_28 gX9_add_X9_lookFault rfl (by decide +kernel) ⟨Nat.le_of_ble_eq_true rfl, Nat.le_of_ble_eq_true rfl⟩ rfl (Nat.le_of_ble_eq_true rfl) ⟨(show 0 + 0 ≤ (rmC S (s_add S (nI pj) (nI qj)).2) by omega), (show 0 + 0 ≤ (rmS S (s_add S (nI pj) (nI qj)).2) by omega)⟩ (c2 := 0) (s2 := 0) rfl rfl (x_lookFault (some (b.1 6 (wh S pj))) (some (b.1 6 (wh S qj))) 4 4 (Or.inr ⟨_, 5, _, rfl, (hx0.T hw_p rfl hb_p), Or.inr (Or.inr (Or.inr (Or.inl ⟨rfl, rfl⟩)))⟩) (Or.inr ⟨_, 5, _, rfl, (hx0.T hw_q rfl hb_q), Or.inr (Or.inr (Or.inr (Or.inl ⟨rfl, rfl⟩)))⟩)) ?_
          refine g_istore_n (lv' := [(3, .int (nI 2)), (0, .ref M), (1, .int (nI pj)), (2, .int (nI qj))]) hC dX9_add_31 rfl (by decide) rfl ?_
          refine g_aload_n hC dX9_add_32 rfl 1 rfl (Or.inr ⟨_, rfl⟩) ?_
          refine g_get hC (by decide +kernel) rfl (hx0.M hM).1 (hx0.M hM).2 0 (by decide) (by decide +kernel) (Or.inl rfl) rfl dX9_add_33 ?_
          refine g_iload_n hC dX9_add_36 rfl 2 rfl ?_
          refine g_aald hC 5 rfl (hx0.Mp rfl).1 (hx0.Mp rfl).2 (pj) rfl (show pj < 10 by omega) (by decide) dX9_add_37 ?_
          refine g_val (w := .ref (b.1 6 (wh S pj))) (congrArg va_rf hp0_p) ?_
          refine g_S (As := [.ref (b.1 6 (wh S pj))]) (st := []) hC 1 dX9_add_38 gX9_add_X9_asTable rfl (by decide +kernel) ⟨Nat.le_of_ble_eq_true rfl, Nat.le_of_ble_eq_true rfl⟩ rfl (Nat.le_of_ble_eq_true rfl) ⟨(show 0 + 0 ≤ (rmC S (s_add S (nI pj) (nI qj)).2) by omega), (show 0 + 0 ≤ (rmS S (s_add S (nI pj) (nI qj)).2) by omega)⟩ (c2 := 0) (s2 := 0) rfl rfl (x_asTable (some (b.1 6 (wh S pj))) 4 (Or.inr ⟨_, 5, _, rfl, (hx0.T hw_p rfl hb_p), Or.inr (Or.inr (Or.inr (Or.inl ⟨rfl, rfl⟩)))⟩)) ?_
          refine g_astore (lv' := [(4, .ref (b.1 6 (wh S pj))), (3, .int (nI 2)), (0, .ref M), (1, .int (nI pj)), (2, .int (nI qj))]) hC dX9_add_41 (by decide) rfl (Or.inr ⟨_, rfl⟩) ?_
          refine g_aload_n hC dX9_add_43 rfl 2 rfl (Or.inr ⟨_, rfl⟩) ?_
          refine g_get hC (by decide +kernel) rfl (hx0.M hM).1 (hx0.M hM).2 0 (by decide) (by decide +kernel) (Or.inl rfl) rfl dX9_add_44 ?_
          refine g_iload_n hC dX9_add_47 rfl 4 rfl ?_
          refine g_aald hC 5 rfl (hx0.Mp rfl).1 (hx0.Mp rfl).2 (qj) rfl (show qj < 10 by omega) (by decide) dX9_add_48 ?_
          refine g_val (w := .ref (b.1 6 (wh S qj))) (congrArg va_rf hp0_q) ?_
          refine g_S (As := [.ref (b.1 6 (wh S qj))]) (st := []) hC 1 dX9_add_49 gX9_add_X9_asBytes rfl (by decide +kernel) ⟨Nat.le_of_ble_eq_true rfl, Nat.le_of_ble_eq_true rfl⟩ rfl (Nat.le_of_ble_eq_true rfl) ⟨(show 0 + 0 ≤ (rmC S (s_add S (nI pj) (nI qj)).2) by omega), (show 0 + 0 ≤ (rmS S (s_add S (nI pj) (nI qj)).2) by omega)⟩ (c2 := 0) (s2 := 0) rfl rfl (x_asBytes (some (b.1 6 (wh S qj))) 4 (Or.inr ⟨_, 5, _, rfl, (hx0.T hw_q rfl hb_q), Or.inr (Or.inr (Or.inr (Or.inl ⟨rfl, rfl⟩)))⟩)) ?_
          refine g_astore (lv' := [(5, .null), (4, .ref (b.1 6 (wh S pj))), (3, .int (nI 2)), (0, .ref M), (1, .int (nI pj)), (2, .int (nI qj))]) hC dX9_add_52 (by decide) rfl (Or.inl rfl) ?_
          refine g_iload_n hC dX9_add_54 rfl 2 rfl ?_
          refine g_ifN_ne (a := 2) (tgt := 68) hC dX9_add_55 (by decide) (by omega) (fun h55 => ?_) (fun h55 => ?_)
          · refine g_aload_n hC dX9_add_68 rfl 3 rfl (Or.inr ⟨_, rfl⟩) ?_
            refine g_iload_n hC dX9_add_69 rfl 2 rfl ?_
            refine g_Vx (As := [.int (nI 2)]) (st := []) hC 1 dX9_add_70 rfl (hx0.M hM).1 (hx0.M hM).2 gX9_add_X9_failed rfl (by decide +kernel) ⟨Nat.le_of_ble_eq_true rfl, Nat.le_of_ble_eq_true rfl⟩ rfl (Nat.le_of_ble_eq_true rfl) ⟨(show 0 + 0 ≤ (rmC S (s_add S (nI pj) (nI qj)).2) by omega), (show 0 + 0 ≤ (rmS S (s_add S (nI pj) (nI qj)).2) by omega)⟩ (c2 := 0) (s2 := 0) rfl rfl (x_failed hx0 M hM 2) (fun v1 L1 f1 hp1 => ?_)
            obtain ⟨rfl, hx1⟩ := hp1
            show gW X vwCl 6 L1 f1 0 0 73 [(5, .null), (4, .ref (b.1 6 (wh S pj))), (3, .int (nI 2)), (0, .ref M), (1, .int (nI pj)), (2, .int (nI qj))] [.int (fA 2)]
            have hc_p : castF S pj 4 = 0 := by unfold castF isO; rw [hk_p] <;> decide
            have hc_q : castF S qj 1 = 2 := by unfold castF isO; rw [hk_q] <;> decide
            have hbf : bthF S pj qj 1 = 2 := by unfold bthF; rw [hc_p, hc_q] <;> decide
            have hE : s_add S (nI pj) (nI qj) = (fA 2, (aSc (thS S) 1 2)) := by
              unfold s_add
              rw [if_pos h4, if_pos h11, hpl_p, hpl_q, hbf, if_pos (show 0 < 2 by decide)] <;> rfl
            refine g_widen (c2 := (rmC S (s_add S (nI pj) (nI qj)).2)) (s2 := (rmS S (s_add S (nI pj) (nI qj)).2)) (show 0 ≤ (rmC S (s_add S (nI pj) (nI qj)).2) by omega) (show 0 ≤ (rmS S (s_add S (nI pj) (nI qj)).2) by omega) ?_
            exact g_iret hC hR dX9_add_73 ⟨b, congrArg (fun z => some (Value.int (Prod.fst z))) hE.symm, by rw [hE]; exact hx1, xG.rf⟩
          · exfalso; omega
        · have hw_q : wh S qj < S.1 13 := hI.wt hqj (by omega)
          have hb_q : S.2.1 14 (wh S qj) ≠ 0 := by have := ((hI.2.1 _ hqj).2.2.2.2.2 (by omega)).2; omega
          have hp0_q : plcF (thS S) b qj = some (b.1 6 (wh S qj)) := plc_k hqj hk_q (by decide)
          refine g_aald hC 5 rfl (hx0.Mp rfl).1 (hx0.Mp rfl).2 (qj) rfl (show qj < 10 by omega) (by decide) dX9_add_27 ?_
          refine g_val (w := .ref (b.1 6 (wh S qj))) (congrArg va_rf hp0_q) ?_
          refine g_S (As := [.ref (b.1 6 (wh S pj)), .ref (b.1 6 (wh S qj))]) (st := []) hC 2 dX9_add_28 gX9_add_X9_lookFault rfl (by decide +kernel) ⟨Nat.le_of_ble_eq_true rfl, Nat.le_of_ble_eq_true rfl⟩ rfl (Nat.le_of_ble_eq_true rfl) ⟨(show 0 + 0 ≤ (rmC S (s_add S (nI pj) (nI qj)).2) by omega), (show 0 + 0 ≤ (rmS S (s_add S (nI pj) (nI qj)).2) by omega)⟩ (c2 := 0) (s2 := 0) rfl rfl (x_lookFault (some (b.1 6 (wh S pj))) (some (b.1 6 (wh S qj))) 4 5 (Or.inr ⟨_, 5, _, rfl, (hx0.T hw_p rfl hb_p), Or.inr (Or.inr (Or.inr (Or.inl ⟨rfl, rfl⟩)))⟩) (Or.inr ⟨_, 1, _, rfl, (hx0.K hw_q rfl hb_q), Or.inr (Or.inr (Or.inr (Or.inr ⟨rfl, rfl⟩)))⟩)) ?_
          refine g_istore_n (lv' := [(3, .int (nI 2)), (0, .ref M), (1, .int (nI pj)), (2, .int (nI qj))]) hC dX9_add_31 rfl (by decide) rfl ?_
          refine g_aload_n hC dX9_add_32 rfl 1 rfl (Or.inr ⟨_, rfl⟩) ?_
          refine g_get hC (by decide +kernel) rfl (hx0.M hM).1 (hx0.M hM).2 0 (by decide) (by decide +kernel) (Or.inl rfl) rfl dX9_add_33 ?_
          refine g_iload_n hC dX9_add_36 rfl 2 rfl ?_
          refine g_aald hC 5 rfl (hx0.Mp rfl).1 (hx0.Mp rfl).2 (pj) rfl (show pj < 10 by omega) (by decide) dX9_add_37 ?_
          refine g_val (w := .ref (b.1 6 (wh S pj))) (congrArg va_rf hp0_p) ?_
          refine g_S (As := [.ref (b.1 6 (wh S pj))]) (st := []) hC 1 dX9_add_38 gX9_add_X9_asTable rfl (by decide +kernel) ⟨Nat.le_of_ble_eq_true rfl, Nat.le_of_ble_eq_true rfl⟩ rfl (Nat.le_of_ble_eq_true rfl) ⟨(show 0 + 0 ≤ (rmC S (s_add S (nI pj) (nI qj)).2) by omega), (show 0 + 0 ≤ (rmS S (s_add S (nI pj) (nI qj)).2) by omega)⟩ (c2 := 0) (s2 := 0) rfl rfl (x_asTable (some (b.1 6 (wh S pj))) 4 (Or.inr ⟨_, 5, _, rfl, (hx0.T hw_p rfl hb_p), Or.inr (Or.inr (Or.inr (Or.inl ⟨rfl, rfl⟩)))⟩)) ?_
          refine g_astore (lv' := [(4, .ref (b.1 6 (wh S pj))), (3, .int (nI 2)), (0, .ref M), (1, .int (nI pj)), (2, .int (nI qj))]) hC dX9_add_41 (by decide) rfl (Or.inr ⟨_, rfl⟩) ?_
          refine g_aload_n hC dX9_add_43 rfl 2 rfl (Or.inr ⟨_, rfl⟩) ?_
          refine g_get hC (by decide +kernel) rfl (hx0.M hM).1 (hx0.M hM).2 0 (by decide) (by decide +kernel) (Or.inl rfl) rfl dX9_add_44 ?_
          refine g_iload_n hC dX9_add_47 rfl 4 rfl ?_
          refine g_aald hC 5 rfl (hx0.Mp rfl).1 (hx0.Mp rfl).2 (qj) rfl (show qj < 10 by omega) (by decide) dX9_add_48 ?_
          refine g_val (w := .ref (b.1 6 (wh S qj))) (congrArg va_rf hp0_q) ?_
          refine g_S (As := [.ref (b.1 6 (wh S qj))]) (st := []) hC 1 dX9_add_49 gX9_add_X9_asBytes rfl (by decide +kernel) ⟨Nat.le_of_ble_eq_true rfl, Nat.le_of_ble_eq_true rfl⟩ rfl (Nat.le_of_ble_eq_true rfl) ⟨(show 0 + 0 ≤ (rmC S (s_add S (nI pj) (nI qj)).2) by omega), (show 0 + 0 ≤ (rmS S (s_add S (nI pj) (nI qj)).2) by omega)⟩ (c2 := 0) (s2 := 0) rfl rfl (x_asBytes (some (b.1 6 (wh S qj))) 5 (Or.inr ⟨_, 1, _, rfl, (hx0.K hw_q rfl hb_q), Or.inr (Or.inr (Or.inr (Or.inr ⟨rfl, rfl⟩)))⟩)) ?_
          refine g_astore (lv' := [(5, .null), (4, .ref (b.1 6 (wh S pj))), (3, .int (nI 2)), (0, .ref M), (1, .int (nI pj)), (2, .int (nI qj))]) hC dX9_add_52 (by decide) rfl (Or.inl rfl) ?_
          refine g_iload_n hC dX9_add_54 rfl 2 rfl ?_
          refine g_ifN_ne (a := 2) (tgt := 68) hC dX9_add_55 (by decide) (by omega) (fun h55 => ?_) (fun h55 => ?_)
          · refine g_aload_n hC dX9_add_68 rfl 3 rfl (Or.inr ⟨_, rfl⟩) ?_
            refine g_iload_n hC dX9_add_69 rfl 2 rfl ?_
            refine g_Vx (As := [.int (nI 2)]) (st := []) hC 1 dX9_add_70 rfl (hx0.M hM).1 (hx0.M hM).2 gX9_add_X9_failed rfl (by decide +kernel) ⟨Nat.le_of_ble_eq_true rfl, Nat.le_of_ble_eq_true rfl⟩ rfl (Nat.le_of_ble_eq_true rfl) ⟨(show 0 + 0 ≤ (rmC S (s_add S (nI pj) (nI qj)).2) by omega), (show 0 + 0 ≤ (rmS S (s_add S (nI pj) (nI qj)).2) by omega)⟩ (c2 := 0) (s2 := 0) rfl rfl (x_failed hx0 M hM 2) (fun v1 L1 f1 hp1 => ?_)
            obtain ⟨rfl, hx1⟩ := hp1
            show gW X vwCl 6 L1 f1 0 0 73 [(5, .null), (4, .ref (b.1 6 (wh S pj))), (3, .int (nI 2)), (0, .ref M), (1, .int (nI pj)), (2, .int (nI qj))] [.int (fA 2)]
            have hc_p : castF S pj 4 = 0 := by unfold castF isO; rw [hk_p] <;> decide
            have hc_q : castF S qj 1 = 2 := by unfold castF isO; rw [hk_q] <;> decide
            have hbf : bthF S pj qj 1 = 2 := by unfold bthF; rw [hc_p, hc_q] <;> decide
            have hE : s_add S (nI pj) (nI qj) = (fA 2, (aSc (thS S) 1 2)) := by
              unfold s_add
              rw [if_pos h4, if_pos h11, hpl_p, hpl_q, hbf, if_pos (show 0 < 2 by decide)] <;> rfl
            refine g_widen (c2 := (rmC S (s_add S (nI pj) (nI qj)).2)) (s2 := (rmS S (s_add S (nI pj) (nI qj)).2)) (show 0 ≤ (rmC S (s_add S (nI pj) (nI qj)).2) by omega) (show 0 ≤ (rmS S (s_add S (nI pj) (nI qj)).2) by omega) ?_
            exact g_iret hC hR dX9_add_73 ⟨b, congrArg (fun z => some (Value.int (Prod.fst z))) hE.symm, by rw [hE]; exact hx1, xG.rf⟩
          · exfalso; omega
      · have hw_p : wh S pj < S.1 13 := hI.wt hpj (by omega)
        have hb_p : S.2.1 14 (wh S pj) ≠ 0 := by have := ((hI.2.1 _ hpj).2.2.2.2.2 (by omega)).2; omega
        have hp0_p : plcF (thS S) b pj = some (b.1 6 (wh S pj)) := plc_k hpj hk_p (by decide)
        have htk := hI.tk hw_p
        have htm := htk.2.1
        have hts := htk.sl
        have htk0 := hI0.tk (show wh S pj < (thS S).1 13 from hw_p)
        refine g_aald hC 5 rfl (hx0.Mp rfl).1 (hx0.Mp rfl).2 (pj) rfl (show pj < 10 by omega) (by decide) dX9_add_21 ?_
        refine g_val (w := .ref (b.1 6 (wh S pj))) (congrArg va_rf hp0_p) ?_
        refine g_aload_n hC dX9_add_22 rfl 0 rfl (Or.inr ⟨_, rfl⟩) ?_
        refine g_get hC (by decide +kernel) rfl (hx0.M hM).1 (hx0.M hM).2 0 (by decide) (by decide +kernel) (Or.inl rfl) rfl dX9_add_23 ?_
        refine g_iload_n hC dX9_add_26 rfl 2 rfl ?_
        have h5_q := hI.k5 hqj
        rcases (show kd S qj = 0 ∨ kd S qj = 1 ∨ kd S qj = 2 ∨ kd S qj = 3 ∨ kd S qj = 4 ∨ kd S qj = 5 by omega) with hk_q | hk_q | hk_q | hk_q | hk_q | hk_q
        · have hp0_q : plcF (thS S) b qj = none := plc_0 hqj hk_q
          refine g_aald hC 5 rfl (hx0.Mp rfl).1 (hx0.Mp rfl).2 (qj) rfl (show qj < 10 by omega) (by decide) dX9_add_27 ?_
          refine g_val (w := .null) (congrArg va_rf hp0_q) ?_
          refine g_S (As := [.ref (b.1 6 (wh S pj)), .null]) (st := []) hC 2 dX9_add_28 gX9_add_X9_lookFault rfl (by decide +kernel) ⟨Nat.le_of_ble_eq_true rfl, Nat.le_of_ble_eq_true rfl⟩ rfl (Nat.le_of_ble_eq_true rfl) ⟨(show 0 + 0 ≤ (rmC S (s_add S (nI pj) (nI qj)).2) by omega), (show 0 + 0 ≤ (rmS S (s_add S (nI pj) (nI qj)).2) by omega)⟩ (c2 := 0) (s2 := 0) rfl rfl (x_lookFault (some (b.1 6 (wh S pj))) none 5 0 (Or.inr ⟨_, 1, _, rfl, (hx0.K hw_p rfl hb_p), Or.inr (Or.inr (Or.inr (Or.inr ⟨rfl, rfl⟩)))⟩) (Or.inl ⟨rfl, rfl⟩)) ?_
          refine g_istore_n (lv' := [(3, .int (nI 1)), (0, .ref M), (1, .int (nI pj)), (2, .int (nI qj))]) hC dX9_add_31 rfl (by decide) rfl ?_
          refine g_aload_n hC dX9_add_32 rfl 1 rfl (Or.inr ⟨_, rfl⟩) ?_
          refine g_get hC (by decide +kernel) rfl (hx0.M hM).1 (hx0.M hM).2 0 (by decide) (by decide +kernel) (Or.inl rfl) rfl dX9_add_33 ?_
          refine g_iload_n hC dX9_add_36 rfl 2 rfl ?_
          refine g_aald hC 5 rfl (hx0.Mp rfl).1 (hx0.Mp rfl).2 (pj) rfl (show pj < 10 by omega) (by decide) dX9_add_37 ?_
          refine g_val (w := .ref (b.1 6 (wh S pj))) (congrArg va_rf hp0_p) ?_
          refine g_S (As := [.ref (b.1 6 (wh S pj))]) (st := []) hC 1 dX9_add_38 gX9_add_X9_asTable rfl (by decide +kernel) ⟨Nat.le_of_ble_eq_true rfl, Nat.le_of_ble_eq_true rfl⟩ rfl (Nat.le_of_ble_eq_true rfl) ⟨(show 0 + 0 ≤ (rmC S (s_add S (nI pj) (nI qj)).2) by omega), (show 0 + 0 ≤ (rmS S (s_add S (nI pj) (nI qj)).2) by omega)⟩ (c2 := 0) (s2 := 0) rfl rfl (x_asTable (some (b.1 6 (wh S pj))) 5 (Or.inr ⟨_, 1, _, rfl, (hx0.K hw_p rfl hb_p), Or.inr (Or.inr (Or.inr (Or.inr ⟨rfl, rfl⟩)))⟩)) ?_
          refine g_astore (lv' := [(4, .ref (b.1 6 (wh S pj))), (3, .int (nI 1)), (0, .ref M), (1, .int (nI pj)), (2, .int (nI qj))]) hC dX9_add_41 (by decide) rfl (Or.inr ⟨_, rfl⟩) ?_
          refine g_aload_n hC dX9_add_43 rfl 2 rfl (Or.inr ⟨_, rfl⟩) ?_
          refine g_get hC (by decide +kernel) rfl (hx0.M hM).1 (hx0.M hM).2 0 (by decide) (by decide +kernel) (Or.inl rfl) rfl dX9_add_44 ?_
          refine g_iload_n hC dX9_add_47 rfl 4 rfl ?_
          refine g_aald hC 5 rfl (hx0.Mp rfl).1 (hx0.Mp rfl).2 (qj) rfl (show qj < 10 by omega) (by decide) dX9_add_48 ?_
          refine g_val (w := .null) (congrArg va_rf hp0_q) ?_
          refine g_S (As := [.null]) (st := []) hC 1 dX9_add_49 gX9_add_X9_asBytes rfl (by decide +kernel) ⟨Nat.le_of_ble_eq_true rfl, Nat.le_of_ble_eq_true rfl⟩ rfl (Nat.le_of_ble_eq_true rfl) ⟨(show 0 + 0 ≤ (rmC S (s_add S (nI pj) (nI qj)).2) by omega), (show 0 + 0 ≤ (rmS S (s_add S (nI pj) (nI qj)).2) by omega)⟩ (c2 := 0) (s2 := 0) rfl rfl (x_asBytes none 0 (Or.inl ⟨rfl, rfl⟩)) ?_
          refine g_astore (lv' := [(5, .null), (4, .ref (b.1 6 (wh S pj))), (3, .int (nI 1)), (0, .ref M), (1, .int (nI pj)), (2, .int (nI qj))]) hC dX9_add_52 (by decide) rfl (Or.inl rfl) ?_
          refine g_iload_n hC dX9_add_54 rfl 2 rfl ?_
          refine g_ifN_ne (a := 1) (tgt := 68) hC dX9_add_55 (by decide) (by omega) (fun h55 => ?_) (fun h55 => ?_)
          · refine g_aload_n hC dX9_add_68 rfl 3 rfl (Or.inr ⟨_, rfl⟩) ?_
            refine g_iload_n hC dX9_add_69 rfl 2 rfl ?_
            refine g_Vx (As := [.int (nI 1)]) (st := []) hC 1 dX9_add_70 rfl (hx0.M hM).1 (hx0.M hM).2 gX9_add_X9_failed rfl (by decide +kernel) ⟨Nat.le_of_ble_eq_true rfl, Nat.le_of_ble_eq_true rfl⟩ rfl (Nat.le_of_ble_eq_true rfl) ⟨(show 0 + 0 ≤ (rmC S (s_add S (nI pj) (nI qj)).2) by omega), (show 0 + 0 ≤ (rmS S (s_add S (nI pj) (nI qj)).2) by omega)⟩ (c2 := 0) (s2 := 0) rfl rfl (x_failed hx0 M hM 1) (fun v1 L1 f1 hp1 => ?_)
            obtain ⟨rfl, hx1⟩ := hp1
            show gW X vwCl 6 L1 f1 0 0 73 [(5, .null), (4, .ref (b.1 6 (wh S pj))), (3, .int (nI 1)), (0, .ref M), (1, .int (nI pj)), (2, .int (nI qj))] [.int (fA 1)]
            have hc_p : castF S pj 4 = 0 := by unfold castF isO; rw [hk_p] <;> decide
            have hc_q : castF S qj 1 = 1 := by unfold castF isO; rw [hk_q] <;> decide
            have hbf : bthF S pj qj 1 = 1 := by unfold bthF; rw [hc_p, hc_q] <;> decide
            have hE : s_add S (nI pj) (nI qj) = (fA 1, (aSc (thS S) 1 1)) := by
              unfold s_add
              rw [if_pos h4, if_pos h11, hpl_p, hpl_q, hbf, if_pos (show 0 < 1 by decide)] <;> rfl
            refine g_widen (c2 := (rmC S (s_add S (nI pj) (nI qj)).2)) (s2 := (rmS S (s_add S (nI pj) (nI qj)).2)) (show 0 ≤ (rmC S (s_add S (nI pj) (nI qj)).2) by omega) (show 0 ≤ (rmS S (s_add S (nI pj) (nI qj)).2) by omega) ?_
            exact g_iret hC hR dX9_add_73 ⟨b, congrArg (fun z => some (Value.int (Prod.fst z))) hE.symm, by rw [hE]; exact hx1, xG.rf⟩
          · exfalso; omega
        · have hw_q : wh S qj < S.1 4 := hI.wl hqj hk_q
          have hp0_q : plcF (thS S) b qj = some (b.1 0 (wh S qj)) := plc_k hqj hk_q (by decide)
          refine g_aald hC 5 rfl (hx0.Mp rfl).1 (hx0.Mp rfl).2 (qj) rfl (show qj < 10 by omega) (by decide) dX9_add_27 ?_
          refine g_val (w := .ref (b.1 0 (wh S qj))) (congrArg va_rf hp0_q) ?_
          refine g_S (As := [.ref (b.1 6 (wh S pj)), .ref (b.1 0 (wh S qj))]) (st := []) hC 2 dX9_add_28 gX9_add_X9_lookFault rfl (by decide +kernel) ⟨Nat.le_of_ble_eq_true rfl, Nat.le_of_ble_eq_true rfl⟩ rfl (Nat.le_of_ble_eq_true rfl) ⟨(show 0 + 0 ≤ (rmC S (s_add S (nI pj) (nI qj)).2) by omega), (show 0 + 0 ≤ (rmS S (s_add S (nI pj) (nI qj)).2) by omega)⟩ (c2 := 0) (s2 := 0) rfl rfl (x_lookFault (some (b.1 6 (wh S pj))) (some (b.1 0 (wh S qj))) 5 1 (Or.inr ⟨_, 1, _, rfl, (hx0.K hw_p rfl hb_p), Or.inr (Or.inr (Or.inr (Or.inr ⟨rfl, rfl⟩)))⟩) (Or.inr ⟨_, 0, _, rfl, (hx0.B hw_q rfl), Or.inl ⟨rfl, rfl⟩⟩)) ?_
          refine g_istore_n (lv' := [(3, .int (nI 0)), (0, .ref M), (1, .int (nI pj)), (2, .int (nI qj))]) hC dX9_add_31 rfl (by decide) rfl ?_
          refine g_aload_n hC dX9_add_32 rfl 1 rfl (Or.inr ⟨_, rfl⟩) ?_
          refine g_get hC (by decide +kernel) rfl (hx0.M hM).1 (hx0.M hM).2 0 (by decide) (by decide +kernel) (Or.inl rfl) rfl dX9_add_33 ?_
          refine g_iload_n hC dX9_add_36 rfl 2 rfl ?_
          refine g_aald hC 5 rfl (hx0.Mp rfl).1 (hx0.Mp rfl).2 (pj) rfl (show pj < 10 by omega) (by decide) dX9_add_37 ?_
          refine g_val (w := .ref (b.1 6 (wh S pj))) (congrArg va_rf hp0_p) ?_
          refine g_S (As := [.ref (b.1 6 (wh S pj))]) (st := []) hC 1 dX9_add_38 gX9_add_X9_asTable rfl (by decide +kernel) ⟨Nat.le_of_ble_eq_true rfl, Nat.le_of_ble_eq_true rfl⟩ rfl (Nat.le_of_ble_eq_true rfl) ⟨(show 0 + 0 ≤ (rmC S (s_add S (nI pj) (nI qj)).2) by omega), (show 0 + 0 ≤ (rmS S (s_add S (nI pj) (nI qj)).2) by omega)⟩ (c2 := 0) (s2 := 0) rfl rfl (x_asTable (some (b.1 6 (wh S pj))) 5 (Or.inr ⟨_, 1, _, rfl, (hx0.K hw_p rfl hb_p), Or.inr (Or.inr (Or.inr (Or.inr ⟨rfl, rfl⟩)))⟩)) ?_
          refine g_astore (lv' := [(4, .ref (b.1 6 (wh S pj))), (3, .int (nI 0)), (0, .ref M), (1, .int (nI pj)), (2, .int (nI qj))]) hC dX9_add_41 (by decide) rfl (Or.inr ⟨_, rfl⟩) ?_
          refine g_aload_n hC dX9_add_43 rfl 2 rfl (Or.inr ⟨_, rfl⟩) ?_
          refine g_get hC (by decide +kernel) rfl (hx0.M hM).1 (hx0.M hM).2 0 (by decide) (by decide +kernel) (Or.inl rfl) rfl dX9_add_44 ?_
          refine g_iload_n hC dX9_add_47 rfl 4 rfl ?_
          refine g_aald hC 5 rfl (hx0.Mp rfl).1 (hx0.Mp rfl).2 (qj) rfl (show qj < 10 by omega) (by decide) dX9_add_48 ?_
          refine g_val (w := .ref (b.1 0 (wh S qj))) (congrArg va_rf hp0_q) ?_
          refine g_S (As := [.ref (b.1 0 (wh S qj))]) (st := []) hC 1 dX9_add_49 gX9_add_X9_asBytes rfl (by decide +kernel) ⟨Nat.le_of_ble_eq_true rfl, Nat.le_of_ble_eq_true rfl⟩ rfl (Nat.le_of_ble_eq_true rfl) ⟨(show 0 + 0 ≤ (rmC S (s_add S (nI pj) (nI qj)).2) by omega), (show 0 + 0 ≤ (rmS S (s_add S (nI pj) (nI qj)).2) by omega)⟩ (c2 := 0) (s2 := 0) rfl rfl (x_asBytes (some (b.1 0 (wh S qj))) 1 (Or.inr ⟨_, 0, _, rfl, (hx0.B hw_q rfl), Or.inl ⟨rfl, rfl⟩⟩)) ?_
          refine g_astore (lv' := [(5, .ref (b.1 0 (wh S qj))), (4, .ref (b.1 6 (wh S pj))), (3, .int (nI 0)), (0, .ref M), (1, .int (nI pj)), (2, .int (nI qj))]) hC dX9_add_52 (by decide) rfl (Or.inr ⟨_, rfl⟩) ?_
          refine g_iload_n hC dX9_add_54 rfl 2 rfl ?_
          refine g_ifN_ne (a := 0) (tgt := 68) hC dX9_add_55 (by decide) (by omega) (fun h55 => ?_) (fun h55 => ?_)
          · exfalso; omega
          · refine g_aload hC dX9_add_58 1 rfl (Or.inr ⟨_, rfl⟩) ?_
            refine g_ifnull (o := some (b.1 6 (wh S pj))) (tgt := 68) hC dX9_add_60 (by decide) (fun h60 => ?_) (fun a60 h60 => ?_)
            · cases h60
            · refine g_aload hC dX9_add_63 0 rfl (Or.inr ⟨_, rfl⟩) ?_
              refine g_ifnonnull (o := some (b.1 0 (wh S qj))) (tgt := 74) hC dX9_add_65 (by decide) (fun a65 h65 => ?_) (fun h65 => ?_)
              · refine g_aload_n hC dX9_add_74 rfl 3 rfl (Or.inr ⟨_, rfl⟩) ?_
                refine g_aload hC dX9_add_75 1 rfl (Or.inr ⟨_, rfl⟩) ?_
                refine g_aload hC dX9_add_77 1 rfl (Or.inr ⟨_, rfl⟩) ?_
                refine g_aload hC dX9_add_79 0 rfl (Or.inr ⟨_, rfl⟩) ?_
                have hc_p : castF S pj 4 = 0 := by unfold castF isO; rw [hk_p] <;> decide
                have hc_q : castF S qj 1 = 0 := by unfold castF isO; rw [hk_q] <;> decide
                have hbf : bthF S pj qj 1 = 0 := by unfold bthF; rw [hc_p, hc_q] <;> decide
                have hE0 : s_add S (nI pj) (nI qj) = comS (thS S) (wh S pj) (wh S qj) := by
                  unfold s_add
                  rw [if_pos h4, if_pos h11, hpl_p, hpl_q, hbf, if_neg (show ¬ 0 < 0 by decide)]
                have hrm : rmC (thS S) (comA (thS S) (wh S pj) (wh S qj)).2 = rmC S (s_add S (nI pj) (nI qj)).2 ∧ rmS (thS S) (comA (thS S) (wh S pj) (wh S qj)).2 = rmS S (s_add S (nI pj) (nI qj)).2 := by
                  rw [hE0, com_A]
                  exact rm_cg rfl rfl rfl rfl rfl rfl rfl rfl
                have hcf := comA_f (S := thS S) (t := wh S pj) hI0 (show wh S qj < (thS S).1 4 from hw_q)
                have htZ : wh S pj < (comA (thS S) (wh S pj) (wh S qj)).2.1 13 := by rw [hcf.1 13 (by decide) (by decide)]; exact hw_p
                have hkZ : (comA (thS S) (wh S pj) (wh S qj)).2.2.1 14 (wh S pj) ≠ 0 := by rw [hcf.2.1]; exact hb_p
                refine g_Ux (As := [.ref (b.1 0 (wh S qj))]) (st := [.ref (b.1 6 (wh S pj)), .ref M]) hC 1 dX9_add_81 rfl (hx0.K hw_p rfl hb_p).1 (hx0.K hw_p rfl hb_p).2 gX9_add_X7_admit_u163X1 rfl rfl (by decide +kernel) ⟨Nat.le_of_ble_eq_true rfl, Nat.le_of_ble_eq_true rfl⟩ rfl (Nat.le_of_ble_eq_true rfl) ⟨(show 0 + (rmC (thS S) (comA (thS S) (wh S pj) (wh S qj)).2) ≤ (rmC S (s_add S (nI pj) (nI qj)).2) by omega), (show 0 + (rmS (thS S) (comA (thS S) (wh S pj) (wh S qj)).2) ≤ (rmS S (s_add S (nI pj) (nI qj)).2) by omega)⟩ (c2 := (0 + (rmC (thS S) (comA (thS S) (wh S pj) (wh S qj)).2))) (s2 := (0 + (rmS (thS S) (comA (thS S) (wh S pj) (wh S qj)).2))) rfl rfl (x_admit_K (S := thS S) hx0 hI0 hb h24 _ _ hw_p rfl hb_p _ _ hw_q rfl) (fun v1 L1 f1 hp1 => ?_)
                obtain ⟨b1, rfl, hx1, hg1⟩ := hp1
                show gW X vwCl 6 L1 f1 (0 + (rmC (thS S) (comA (thS S) (wh S pj) (wh S qj)).2)) (0 + (rmS (thS S) (comA (thS S) (wh S pj) (wh S qj)).2)) 84 [(5, .ref (b.1 0 (wh S qj))), (4, .ref (b.1 6 (wh S pj))), (3, .int (nI 0)), (0, .ref M), (1, .int (nI pj)), (2, .int (nI qj))] [.int ((comA (thS S) (wh S pj) (wh S qj)).1), .ref (b.1 6 (wh S pj)), .ref M]
                have hlb := lk_b (S := thS S) (r := wh S qj) htk0
                have hlb : (lk (thS S) (wh S pj) (wh S qj)).2 ≤ S.2.1 15 (wh S pj) := hlb
                refine g_Vx (As := [.ref (b.1 6 (wh S pj)), .int ((comA (thS S) (wh S pj) (wh S qj)).1)]) (st := []) hC 2 dX9_add_84 rfl (hx1.M ((hg1 9 0 (by decide) (by decide) (show 0 < 4 by decide)).trans hM)).1 (hx1.M ((hg1 9 0 (by decide) (by decide) (show 0 < 4 by decide)).trans hM)).2 gX9_add_X9_counted rfl (by decide +kernel) ⟨Nat.le_of_ble_eq_true rfl, Nat.le_of_ble_eq_true rfl⟩ rfl (Nat.le_of_ble_eq_true rfl) ⟨(show (0 + (rmC (thS S) (comA (thS S) (wh S pj) (wh S qj)).2)) + 0 ≤ (rmC S (s_add S (nI pj) (nI qj)).2) by omega), (show (0 + (rmS (thS S) (comA (thS S) (wh S pj) (wh S qj)).2)) + 0 ≤ (rmS S (s_add S (nI pj) (nI qj)).2) by omega)⟩ (c2 := (0 + (rmC (thS S) (comA (thS S) (wh S pj) (wh S qj)).2))) (s2 := (0 + (rmS (thS S) (comA (thS S) (wh S pj) (wh S qj)).2))) rfl rfl (x_counted_K (S := (comA (thS S) (wh S pj) (wh S qj)).2) hx1 M ((hg1 9 0 (by decide) (by decide) (show 0 < 4 by decide)).trans hM) _ _ htZ ((hg1 6 (wh S pj) (by decide) (by decide) hw_p).trans rfl) hkZ _ (by rw [hcf.2.2.1]; omega)) (fun v2 L2 f2 hp2 => ?_)
                obtain ⟨rfl, hx2⟩ := hp2
                show gW X vwCl 6 L2 f2 (0 + (rmC (thS S) (comA (thS S) (wh S pj) (wh S qj)).2)) (0 + (rmS (thS S) (comA (thS S) (wh S pj) (wh S qj)).2)) 87 [(5, .ref (b.1 0 (wh S qj))), (4, .ref (b.1 6 (wh S pj))), (3, .int (nI 0)), (0, .ref M), (1, .int (nI pj)), (2, .int (nI qj))] [.int ((comA (thS S) (wh S pj) (wh S qj)).1)]
                rw [hcf.1 23 (by decide) (by decide), hcf.1 24 (by decide) (by decide), hcf.2.2.1] at hx2
                have hE := hE0.trans com_A
                refine g_widen (c2 := (rmC S (s_add S (nI pj) (nI qj)).2)) (s2 := (rmS S (s_add S (nI pj) (nI qj)).2)) (show (0 + (rmC (thS S) (comA (thS S) (wh S pj) (wh S qj)).2)) ≤ (rmC S (s_add S (nI pj) (nI qj)).2) by omega) (show (0 + (rmS (thS S) (comA (thS S) (wh S pj) (wh S qj)).2)) ≤ (rmS S (s_add S (nI pj) (nI qj)).2) by omega) ?_
                exact g_iret hC hR dX9_add_87 ⟨b1, by show some (Value.int _) = some (Value.int (s_add S (nI pj) (nI qj)).1); rw [hE], by rw [hE]; exact hx2, hg1⟩
              · cases h65
        · have hw_q : wh S qj < S.1 7 := hI.ws hqj hk_q
          have hp0_q : plcF (thS S) b qj = some (b.1 2 (wh S qj)) := plc_k hqj hk_q (by decide)
          refine g_aald hC 5 rfl (hx0.Mp rfl).1 (hx0.Mp rfl).2 (qj) rfl (show qj < 10 by omega) (by decide) dX9_add_27 ?_
          refine g_val (w := .ref (b.1 2 (wh S qj))) (congrArg va_rf hp0_q) ?_
          refine g_S (As := [.ref (b.1 6 (wh S pj)), .ref (b.1 2 (wh S qj))]) (st := []) hC 2 dX9_add_28 gX9_add_X9_lookFault rfl (by decide +kernel) ⟨Nat.le_of_ble_eq_true rfl, Nat.le_of_ble_eq_true rfl⟩ rfl (Nat.le_of_ble_eq_true rfl) ⟨(show 0 + 0 ≤ (rmC S (s_add S (nI pj) (nI qj)).2) by omega), (show 0 + 0 ≤ (rmS S (s_add S (nI pj) (nI qj)).2) by omega)⟩ (c2 := 0) (s2 := 0) rfl rfl (x_lookFault (some (b.1 6 (wh S pj))) (some (b.1 2 (wh S qj))) 5 2 (Or.inr ⟨_, 1, _, rfl, (hx0.K hw_p rfl hb_p), Or.inr (Or.inr (Or.inr (Or.inr ⟨rfl, rfl⟩)))⟩) (Or.inr ⟨_, 4, _, rfl, (hx0.G hw_q rfl), Or.inr (Or.inl ⟨rfl, rfl⟩)⟩)) ?_
          refine g_istore_n (lv' := [(3, .int (nI 2)), (0, .ref M), (1, .int (nI pj)), (2, .int (nI qj))]) hC dX9_add_31 rfl (by decide) rfl ?_
          refine g_aload_n hC dX9_add_32 rfl 1 rfl (Or.inr ⟨_, rfl⟩) ?_
          refine g_get hC (by decide +kernel) rfl (hx0.M hM).1 (hx0.M hM).2 0 (by decide) (by decide +kernel) (Or.inl rfl) rfl dX9_add_33 ?_
          refine g_iload_n hC dX9_add_36 rfl 2 rfl ?_
          refine g_aald hC 5 rfl (hx0.Mp rfl).1 (hx0.Mp rfl).2 (pj) rfl (show pj < 10 by omega) (by decide) dX9_add_37 ?_
          refine g_val (w := .ref (b.1 6 (wh S pj))) (congrArg va_rf hp0_p) ?_
          refine g_S (As := [.ref (b.1 6 (wh S pj))]) (st := []) hC 1 dX9_add_38 gX9_add_X9_asTable rfl (by decide +kernel) ⟨Nat.le_of_ble_eq_true rfl, Nat.le_of_ble_eq_true rfl⟩ rfl (Nat.le_of_ble_eq_true rfl) ⟨(show 0 + 0 ≤ (rmC S (s_add S (nI pj) (nI qj)).2) by omega), (show 0 + 0 ≤ (rmS S (s_add S (nI pj) (nI qj)).2) by omega)⟩ (c2 := 0) (s2 := 0) rfl rfl (x_asTable (some (b.1 6 (wh S pj))) 5 (Or.inr ⟨_, 1, _, rfl, (hx0.K hw_p rfl hb_p), Or.inr (Or.inr (Or.inr (Or.inr ⟨rfl, rfl⟩)))⟩)) ?_
          refine g_astore (lv' := [(4, .ref (b.1 6 (wh S pj))), (3, .int (nI 2)), (0, .ref M), (1, .int (nI pj)), (2, .int (nI qj))]) hC dX9_add_41 (by decide) rfl (Or.inr ⟨_, rfl⟩) ?_
          refine g_aload_n hC dX9_add_43 rfl 2 rfl (Or.inr ⟨_, rfl⟩) ?_
          refine g_get hC (by decide +kernel) rfl (hx0.M hM).1 (hx0.M hM).2 0 (by decide) (by decide +kernel) (Or.inl rfl) rfl dX9_add_44 ?_
          refine g_iload_n hC dX9_add_47 rfl 4 rfl ?_
          refine g_aald hC 5 rfl (hx0.Mp rfl).1 (hx0.Mp rfl).2 (qj) rfl (show qj < 10 by omega) (by decide) dX9_add_48 ?_
          refine g_val (w := .ref (b.1 2 (wh S qj))) (congrArg va_rf hp0_q) ?_
          refine g_S (As := [.ref (b.1 2 (wh S qj))]) (st := []) hC 1 dX9_add_49 gX9_add_X9_asBytes rfl (by decide +kernel) ⟨Nat.le_of_ble_eq_true rfl, Nat.le_of_ble_eq_true rfl⟩ rfl (Nat.le_of_ble_eq_true rfl) ⟨(show 0 + 0 ≤ (rmC S (s_add S (nI pj) (nI qj)).2) by omega), (show 0 + 0 ≤ (rmS S (s_add S (nI pj) (nI qj)).2) by omega)⟩ (c2 := 0) (s2 := 0) rfl rfl (x_asBytes (some (b.1 2 (wh S qj))) 2 (Or.inr ⟨_, 4, _, rfl, (hx0.G hw_q rfl), Or.inr (Or.inl ⟨rfl, rfl⟩)⟩)) ?_
          refine g_astore (lv' := [(5, .null), (4, .ref (b.1 6 (wh S pj))), (3, .int (nI 2)), (0, .ref M), (1, .int (nI pj)), (2, .int (nI qj))]) hC dX9_add_52 (by decide) rfl (Or.inl rfl) ?_
          refine g_iload_n hC dX9_add_54 rfl 2 rfl ?_
          refine g_ifN_ne (a := 2) (tgt := 68) hC dX9_add_55 (by decide) (by omega) (fun h55 => ?_) (fun h55 => ?_)
          · refine g_aload_n hC dX9_add_68 rfl 3 rfl (Or.inr ⟨_, rfl⟩) ?_
            refine g_iload_n hC dX9_add_69 rfl 2 rfl ?_
            refine g_Vx (As := [.int (nI 2)]) (st := []) hC 1 dX9_add_70 rfl (hx0.M hM).1 (hx0.M hM).2 gX9_add_X9_failed rfl (by decide +kernel) ⟨Nat.le_of_ble_eq_true rfl, Nat.le_of_ble_eq_true rfl⟩ rfl (Nat.le_of_ble_eq_true rfl) ⟨(show 0 + 0 ≤ (rmC S (s_add S (nI pj) (nI qj)).2) by omega), (show 0 + 0 ≤ (rmS S (s_add S (nI pj) (nI qj)).2) by omega)⟩ (c2 := 0) (s2 := 0) rfl rfl (x_failed hx0 M hM 2) (fun v1 L1 f1 hp1 => ?_)
            obtain ⟨rfl, hx1⟩ := hp1
            show gW X vwCl 6 L1 f1 0 0 73 [(5, .null), (4, .ref (b.1 6 (wh S pj))), (3, .int (nI 2)), (0, .ref M), (1, .int (nI pj)), (2, .int (nI qj))] [.int (fA 2)]
            have hc_p : castF S pj 4 = 0 := by unfold castF isO; rw [hk_p] <;> decide
            have hc_q : castF S qj 1 = 2 := by unfold castF isO; rw [hk_q] <;> decide
            have hbf : bthF S pj qj 1 = 2 := by unfold bthF; rw [hc_p, hc_q] <;> decide
            have hE : s_add S (nI pj) (nI qj) = (fA 2, (aSc (thS S) 1 2)) := by
              unfold s_add
              rw [if_pos h4, if_pos h11, hpl_p, hpl_q, hbf, if_pos (show 0 < 2 by decide)] <;> rfl
            refine g_widen (c2 := (rmC S (s_add S (nI pj) (nI qj)).2)) (s2 := (rmS S (s_add S (nI pj) (nI qj)).2)) (show 0 ≤ (rmC S (s_add S (nI pj) (nI qj)).2) by omega) (show 0 ≤ (rmS S (s_add S (nI pj) (nI qj)).2) by omega) ?_
            exact g_iret hC hR dX9_add_73 ⟨b, congrArg (fun z => some (Value.int (Prod.fst z))) hE.symm, by rw [hE]; exact hx1, xG.rf⟩
          · exfalso; omega
        · have hw_q : wh S qj < S.1 10 := hI.wr hqj hk_q
          have hp0_q : plcF (thS S) b qj = some (b.1 4 (wh S qj)) := plc_k hqj hk_q (by decide)
          refine g_aald hC 5 rfl (hx0.Mp rfl).1 (hx0.Mp rfl).2 (qj) rfl (show qj < 10 by omega) (by decide) dX9_add_27 ?_
          refine g_val (w := .ref (b.1 4 (wh S qj))) (congrArg va_rf hp0_q) ?_
          refine g_S (As := [.ref (b.1 6 (wh S pj)), .ref (b.1 4 (wh S qj))]) (st := []) hC 2 dX9_add_28 gX9_add_X9_lookFault rfl (by decide +kernel) ⟨Nat.le_of_ble_eq_true rfl, Nat.le_of_ble_eq_true rfl⟩ rfl (Nat.le_of_ble_eq_true rfl) ⟨(show 0 + 0 ≤ (rmC S (s_add S (nI pj) (nI qj)).2) by omega), (show 0 + 0 ≤ (rmS S (s_add S (nI pj) (nI qj)).2) by omega)⟩ (c2 := 0) (s2 := 0) rfl rfl (x_lookFault (some (b.1 6 (wh S pj))) (some (b.1 4 (wh S qj))) 5 3 (Or.inr ⟨_, 1, _, rfl, (hx0.K hw_p rfl hb_p), Or.inr (Or.inr (Or.inr (Or.inr ⟨rfl, rfl⟩)))⟩) (Or.inr ⟨_, 3, _, rfl, (hx0.W hw_q rfl), Or.inr (Or.inr (Or.inl ⟨rfl, rfl⟩))⟩)) ?_
          refine g_istore_n (lv' := [(3, .int (nI 2)), (0, .ref M), (1, .int (nI pj)), (2, .int (nI qj))]) hC dX9_add_31 rfl (by decide) rfl ?_
          refine g_aload_n hC dX9_add_32 rfl 1 rfl (Or.inr ⟨_, rfl⟩) ?_
          refine g_get hC (by decide +kernel) rfl (hx0.M hM).1 (hx0.M hM).2 0 (by decide) (by decide +kernel) (Or.inl rfl) rfl dX9_add_33 ?_
          refine g_iload_n hC dX9_add_36 rfl 2 rfl ?_
          refine g_aald hC 5 rfl (hx0.Mp rfl).1 (hx0.Mp rfl).2 (pj) rfl (show pj < 10 by omega) (by decide) dX9_add_37 ?_
          refine g_val (w := .ref (b.1 6 (wh S pj))) (congrArg va_rf hp0_p) ?_
          refine g_S (As := [.ref (b.1 6 (wh S pj))]) (st := []) hC 1 dX9_add_38 gX9_add_X9_asTable rfl (by decide +kernel) ⟨Nat.le_of_ble_eq_true rfl, Nat.le_of_ble_eq_true rfl⟩ rfl (Nat.le_of_ble_eq_true rfl) ⟨(show 0 + 0 ≤ (rmC S (s_add S (nI pj) (nI qj)).2) by omega), (show 0 + 0 ≤ (rmS S (s_add S (nI pj) (nI qj)).2) by omega)⟩ (c2 := 0) (s2 := 0) rfl rfl (x_asTable (some (b.1 6 (wh S pj))) 5 (Or.inr ⟨_, 1, _, rfl, (hx0.K hw_p rfl hb_p), Or.inr (Or.inr (Or.inr (Or.inr ⟨rfl, rfl⟩)))⟩)) ?_
          refine g_astore (lv' := [(4, .ref (b.1 6 (wh S pj))), (3, .int (nI 2)), (0, .ref M), (1, .int (nI pj)), (2, .int (nI qj))]) hC dX9_add_41 (by decide) rfl (Or.inr ⟨_, rfl⟩) ?_
          refine g_aload_n hC dX9_add_43 rfl 2 rfl (Or.inr ⟨_, rfl⟩) ?_
          refine g_get hC (by decide +kernel) rfl (hx0.M hM).1 (hx0.M hM).2 0 (by decide) (by decide +kernel) (Or.inl rfl) rfl dX9_add_44 ?_
          refine g_iload_n hC dX9_add_47 rfl 4 rfl ?_
          refine g_aald hC 5 rfl (hx0.Mp rfl).1 (hx0.Mp rfl).2 (qj) rfl (show qj < 10 by omega) (by decide) dX9_add_48 ?_
          refine g_val (w := .ref (b.1 4 (wh S qj))) (congrArg va_rf hp0_q) ?_
          refine g_S (As := [.ref (b.1 4 (wh S qj))]) (st := []) hC 1 dX9_add_49 gX9_add_X9_asBytes rfl (by decide +kernel) ⟨Nat.le_of_ble_eq_true rfl, Nat.le_of_ble_eq_true rfl⟩ rfl (Nat.le_of_ble_eq_true rfl) ⟨(show 0 + 0 ≤ (rmC S (s_add S (nI pj) (nI qj)).2) by omega), (show 0 + 0 ≤ (rmS S (s_add S (nI pj) (nI qj)).2) by omega)⟩ (c2 := 0) (s2 := 0) rfl rfl (x_asBytes (some (b.1 4 (wh S qj))) 3 (Or.inr ⟨_, 3, _, rfl, (hx0.W hw_q rfl), Or.inr (Or.inr (Or.inl ⟨rfl, rfl⟩))⟩)) ?_
          refine g_astore (lv' := [(5, .null), (4, .ref (b.1 6 (wh S pj))), (3, .int (nI 2)), (0, .ref M), (1, .int (nI pj)), (2, .int (nI qj))]) hC dX9_add_52 (by decide) rfl (Or.inl rfl) ?_
          refine g_iload_n hC dX9_add_54 rfl 2 rfl ?_
          refine g_ifN_ne (a := 2) (tgt := 68) hC dX9_add_55 (by decide) (by omega) (fun h55 => ?_) (fun h55 => ?_)
          · refine g_aload_n hC dX9_add_68 rfl 3 rfl (Or.inr ⟨_, rfl⟩) ?_
            refine g_iload_n hC dX9_add_69 rfl 2 rfl ?_
            refine g_Vx (As := [.int (nI 2)]) (st := []) hC 1 dX9_add_70 rfl (hx0.M hM).1 (hx0.M hM).2 gX9_add_X9_failed rfl (by decide +kernel) ⟨Nat.le_of_ble_eq_true rfl, Nat.le_of_ble_eq_true rfl⟩ rfl (Nat.le_of_ble_eq_true rfl) ⟨(show 0 + 0 ≤ (rmC S (s_add S (nI pj) (nI qj)).2) by omega), (show 0 + 0 ≤ (rmS S (s_add S (nI pj) (nI qj)).2) by omega)⟩ (c2 := 0) (s2 := 0) rfl rfl (x_failed hx0 M hM 2) (fun v1 L1 f1 hp1 => ?_)
            obtain ⟨rfl, hx1⟩ := hp1
            show gW X vwCl 6 L1 f1 0 0 73 [(5, .null), (4, .ref (b.1 6 (wh S pj))), (3, .int (nI 2)), (0, .ref M), (1, .int (nI pj)), (2, .int (nI qj))] [.int (fA 2)]
            have hc_p : castF S pj 4 = 0 := by unfold castF isO; rw [hk_p] <;> decide
            have hc_q : castF S qj 1 = 2 := by unfold castF isO; rw [hk_q] <;> decide
            have hbf : bthF S pj qj 1 = 2 := by unfold bthF; rw [hc_p, hc_q] <;> decide
            have hE : s_add S (nI pj) (nI qj) = (fA 2, (aSc (thS S) 1 2)) := by
              unfold s_add
              rw [if_pos h4, if_pos h11, hpl_p, hpl_q, hbf, if_pos (show 0 < 2 by decide)] <;> rfl
            refine g_widen (c2 := (rmC S (s_add S (nI pj) (nI qj)).2)) (s2 := (rmS S (s_add S (nI pj) (nI qj)).2)) (show 0 ≤ (rmC S (s_add S (nI pj) (nI qj)).2) by omega) (show 0 ≤ (rmS S (s_add S (nI pj) (nI qj)).2) by omega) ?_
            exact g_iret hC hR dX9_add_73 ⟨b, congrArg (fun z => some (Value.int (Prod.fst z))) hE.symm, by rw [hE]; exact hx1, xG.rf⟩
          · exfalso; omega
        · have hw_q : wh S qj < S.1 13 := hI.wt hqj (by omega)
          have hb_q : S.2.1 14 (wh S qj) = 0 := by have := ((hI.2.1 _ hqj).2.2.2.2.2 (by omega)).2; omega
          have hp0_q : plcF (thS S) b qj = some (b.1 6 (wh S qj)) := plc_k hqj hk_q (by decide)
          refine g_aald hC 5 rfl (hx0.Mp rfl).1 (hx0.Mp rfl).2 (qj) rfl (show qj < 10 by omega) (by decide) dX9_add_27 ?_
          refine g_val (w := .ref (b.1 6 (wh S qj))) (congrArg va_rf hp0_q) ?_
          refine g_S (As := [.ref (b.1 6 (wh S pj)), .ref (b.1 6 (wh S qj))]) (st := []) hC 2 dX9_add_28 gX9_add_X9_lookFault rfl (by decide +kernel) ⟨Nat.le_of_ble_eq_true rfl, Nat.le_of_ble_eq_true rfl⟩ rfl (Nat.le_of_ble_eq_true rfl) ⟨(show 0 + 0 ≤ (rmC S (s_add S (nI pj) (nI qj)).2) by omega), (show 0 + 0 ≤ (rmS S (s_add S (nI pj) (nI qj)).2) by omega)⟩ (c2 := 0) (s2 := 0) rfl rfl (x_lookFault (some (b.1 6 (wh S pj))) (some (b.1 6 (wh S qj))) 5 4 (Or.inr ⟨_, 1, _, rfl, (hx0.K hw_p rfl hb_p), Or.inr (Or.inr (Or.inr (Or.inr ⟨rfl, rfl⟩)))⟩) (Or.inr ⟨_, 5, _, rfl, (hx0.T hw_q rfl hb_q), Or.inr (Or.inr (Or.inr (Or.inl ⟨rfl, rfl⟩)))⟩)) ?_
          refine g_istore_n (lv' := [(3, .int (nI 2)), (0, .ref M), (1, .int (nI pj)), (2, .int (nI qj))]) hC dX9_add_31 rfl (by decide) rfl ?_
          refine g_aload_n hC dX9_add_32 rfl 1 rfl (Or.inr ⟨_, rfl⟩) ?_
          refine g_get hC (by decide +kernel) rfl (hx0.M hM).1 (hx0.M hM).2 0 (by decide) (by decide +kernel) (Or.inl rfl) rfl dX9_add_33 ?_
          refine g_iload_n hC dX9_add_36 rfl 2 rfl ?_
          refine g_aald hC 5 rfl (hx0.Mp rfl).1 (hx0.Mp rfl).2 (pj) rfl (show pj < 10 by omega) (by decide) dX9_add_37 ?_
          refine g_val (w := .ref (b.1 6 (wh S pj))) (congrArg va_rf hp0_p) ?_
          refine g_S (As := [.ref (b.1 6 (wh S pj))]) (st := []) hC 1 dX9_add_38 gX9_add_X9_asTable rfl (by decide +kernel) ⟨Nat.le_of_ble_eq_true rfl, Nat.le_of_ble_eq_true rfl⟩ rfl (Nat.le_of_ble_eq_true rfl) ⟨(show 0 + 0 ≤ (rmC S (s_add S (nI pj) (nI qj)).2) by omega), (show 0 + 0 ≤ (rmS S (s_add S (nI pj) (nI qj)).2) by omega)⟩ (c2 := 0) (s2 := 0) rfl rfl (x_asTable (some (b.1 6 (wh S pj))) 5 (Or.inr ⟨_, 1, _, rfl, (hx0.K hw_p rfl hb_p), Or.inr (Or.inr (Or.inr (Or.inr ⟨rfl, rfl⟩)))⟩)) ?_
          refine g_astore (lv' := [(4, .ref (b.1 6 (wh S pj))), (3, .int (nI 2)), (0, .ref M), (1, .int (nI pj)), (2, .int (nI qj))]) hC dX9_add_41 (by decide) rfl (Or.inr ⟨_, rfl⟩) ?_
          refine g_aload_n hC dX9_add_43 rfl 2 rfl (Or.inr ⟨_, rfl⟩) ?_
          refine g_get hC (by decide +kernel) rfl (hx0.M hM).1 (hx0.M hM).2 0 (by decide) (by decide +kernel) (Or.inl rfl) rfl dX9_add_44 ?_
          refine g_iload_n hC dX9_add_47 rfl 4 rfl ?_
          refine g_aald hC 5 rfl (hx0.Mp rfl).1 (hx0.Mp rfl).2 (qj) rfl (show qj < 10 by omega) (by decide) dX9_add_48 ?_
          refine g_val (w := .ref (b.1 6 (wh S qj))) (congrArg va_rf hp0_q) ?_
          refine g_S (As := [.ref (b.1 6 (wh S qj))]) (st := []) hC 1 dX9_add_49 gX9_add_X9_asBytes rfl (by decide +kernel) ⟨Nat.le_of_ble_eq_true rfl, Nat.le_of_ble_eq_true rfl⟩ rfl (Nat.le_of_ble_eq_true rfl) ⟨(show 0 + 0 ≤ (rmC S (s_add S (nI pj) (nI qj)).2) by omega), (show 0 + 0 ≤ (rmS S (s_add S (nI pj) (nI qj)).2) by omega)⟩ (c2 := 0) (s2 := 0) rfl rfl (x_asBytes (some (b.1 6 (wh S qj))) 4 (Or.inr ⟨_, 5, _, rfl, (hx0.T hw_q rfl hb_q), Or.inr (Or.inr (Or.inr (Or.inl ⟨rfl, rfl⟩)))⟩)) ?_
          refine g_astore (lv' := [(5, .null), (4, .ref (b.1 6 (wh S pj))), (3, .int (nI 2)), (0, .ref M), (1, .int (nI pj)), (2, .int (nI qj))]) hC dX9_add_52 (by decide) rfl (Or.inl rfl) ?_
          refine g_iload_n hC dX9_add_54 rfl 2 rfl ?_
          refine g_ifN_ne (a := 2) (tgt := 68) hC dX9_add_55 (by decide) (by omega) (fun h55 => ?_) (fun h55 => ?_)
          · refine g_aload_n hC dX9_add_68 rfl 3 rfl (Or.inr ⟨_, rfl⟩) ?_
            refine g_iload_n hC dX9_add_69 rfl 2 rfl ?_
            refine g_Vx (As := [.int (nI 2)]) (st := []) hC 1 dX9_add_70 rfl (hx0.M hM).1 (hx0.M hM).2 gX9_add_X9_failed rfl (by decide +kernel) ⟨Nat.le_of_ble_eq_true rfl, Nat.le_of_ble_eq_true rfl⟩ rfl (Nat.le_of_ble_eq_true rfl) ⟨(show 0 + 0 ≤ (rmC S (s_add S (nI pj) (nI qj)).2) by omega), (show 0 + 0 ≤ (rmS S (s_add S (nI pj) (nI qj)).2) by omega)⟩ (c2 := 0) (s2 := 0) rfl rfl (x_failed hx0 M hM 2) (fun v1 L1 f1 hp1 => ?_)
            obtain ⟨rfl, hx1⟩ := hp1
            show gW X vwCl 6 L1 f1 0 0 73 [(5, .null), (4, .ref (b.1 6 (wh S pj))), (3, .int (nI 2)), (0, .ref M), (1, .int (nI pj)), (2, .int (nI qj))] [.int (fA 2)]
            have hc_p : castF S pj 4 = 0 := by unfold castF isO; rw [hk_p] <;> decide
            have hc_q : castF S qj 1 = 2 := by unfold castF isO; rw [hk_q] <;> decide
            have hbf : bthF S pj qj 1 = 2 := by unfold bthF; rw [hc_p, hc_q] <;> decide
            have hE : s_add S (nI pj) (nI qj) = (fA 2, (aSc (thS S) 1 2)) := by
              unfold s_add
              rw [if_pos h4, if_pos h11, hpl_p, hpl_q, hbf, if_pos (show 0 < 2 by decide)] <;> rfl
            refine g_widen (c2 := (rmC S (s_add S (nI pj) (nI qj)).2)) (s2 := (rmS S (s_add S (nI pj) (nI qj)).2)) (show 0 ≤ (rmC S (s_add S (nI pj) (nI qj)).2) by omega) (show 0 ≤ (rmS S (s_add S (nI pj) (nI qj)).2) by omega) ?_
            exact g_iret hC hR dX9_add_73 ⟨b, congrArg (fun z => some (Value.int (Prod.fst z))) hE.symm, by rw [hE]; exact hx1, xG.rf⟩
          · exfalso; omega
        · have hw_q : wh S qj < S.1 13 := hI.wt hqj (by omega)
          have hb_q : S.2.1 14 (wh S qj) ≠ 0 := by have := ((hI.2.1 _ hqj).2.2.2.2.2 (by omega)).2; omega
          have hp0_q : plcF (thS S) b qj = some (b.1 6 (wh S qj)) := plc_k hqj hk_q (by decide)
          refine g_aald hC 5 rfl (hx0.Mp rfl).1 (hx0.Mp rfl).2 (qj) rfl (show qj < 10 by omega) (by decide) dX9_add_27 ?_
          refine g_val (w := .ref (b.1 6 (wh S qj))) (congrArg va_rf hp0_q) ?_
          refine g_S (As := [.ref (b.1 6 (wh S pj)), .ref (b.1 6 (wh S qj))]) (st := []) hC 2 dX9_add_28 gX9_add_X9_lookFault rfl (by decide +kernel) ⟨Nat.le_of_ble_eq_true rfl, Nat.le_of_ble_eq_true rfl⟩ rfl (Nat.le_of_ble_eq_true rfl) ⟨(show 0 + 0 ≤ (rmC S (s_add S (nI pj) (nI qj)).2) by omega), (show 0 + 0 ≤ (rmS S (s_add S (nI pj) (nI qj)).2) by omega)⟩ (c2 := 0) (s2 := 0) rfl rfl (x_lookFault (some (b.1 6 (wh S pj))) (some (b.1 6 (wh S qj))) 5 5 (Or.inr ⟨_, 1, _, rfl, (hx0.K hw_p rfl hb_p), Or.inr (Or.inr (Or.inr (Or.inr ⟨rfl, rfl⟩)))⟩) (Or.inr ⟨_, 1, _, rfl, (hx0.K hw_q rfl hb_q), Or.inr (Or.inr (Or.inr (Or.inr ⟨rfl, rfl⟩)))⟩)) ?_
          refine g_istore_n (lv' := [(3, .int (nI 2)), (0, .ref M), (1, .int (nI pj)), (2, .int (nI qj))]) hC dX9_add_31 rfl (by decide) rfl ?_
          refine g_aload_n hC dX9_add_32 rfl 1 rfl (Or.inr ⟨_, rfl⟩) ?_
          refine g_get hC (by decide +kernel) rfl (hx0.M hM).1 (hx0.M hM).2 0 (by decide) (by decide +kernel) (Or.inl rfl) rfl dX9_add_33 ?_
          refine g_iload_n hC dX9_add_36 rfl 2 rfl ?_
          refine g_aald hC 5 rfl (hx0.Mp rfl).1 (hx0.Mp rfl).2 (pj) rfl (show pj < 10 by omega) (by decide) dX9_add_37 ?_
          refine g_val (w := .ref (b.1 6 (wh S pj))) (congrArg va_rf hp0_p) ?_
          refine g_S (As := [.ref (b.1 6 (wh S pj))]) (st := []) hC 1 dX9_add_38 gX9_add_X9_asTable rfl (by decide +kernel) ⟨Nat.le_of_ble_eq_true rfl, Nat.le_of_ble_eq_true rfl⟩ rfl (Nat.le_of_ble_eq_true rfl) ⟨(show 0 + 0 ≤ (rmC S (s_add S (nI pj) (nI qj)).2) by omega), (show 0 + 0 ≤ (rmS S (s_add S (nI pj) (nI qj)).2) by omega)⟩ (c2 := 0) (s2 := 0) rfl rfl (x_asTable (some (b.1 6 (wh S pj))) 5 (Or.inr ⟨_, 1, _, rfl, (hx0.K hw_p rfl hb_p), Or.inr (Or.inr (Or.inr (Or.inr ⟨rfl, rfl⟩)))⟩)) ?_
          refine g_astore (lv' := [(4, .ref (b.1 6 (wh S pj))), (3, .int (nI 2)), (0, .ref M), (1, .int (nI pj)), (2, .int (nI qj))]) hC dX9_add_41 (by decide) rfl (Or.inr ⟨_, rfl⟩) ?_
          refine g_aload_n hC dX9_add_43 rfl 2 rfl (Or.inr ⟨_, rfl⟩) ?_
          refine g_get hC (by decide +kernel) rfl (hx0.M hM).1 (hx0.M hM).2 0 (by decide) (by decide +kernel) (Or.inl rfl) rfl dX9_add_44 ?_
          refine g_iload_n hC dX9_add_47 rfl 4 rfl ?_
          refine g_aald hC 5 rfl (hx0.Mp rfl).1 (hx0.Mp rfl).2 (qj) rfl (show qj < 10 by omega) (by decide) dX9_add_48 ?_
          refine g_val (w := .ref (b.1 6 (wh S qj))) (congrArg va_rf hp0_q) ?_
          refine g_S (As := [.ref (b.1 6 (wh S qj))]) (st := []) hC 1 dX9_add_49 gX9_add_X9_asBytes rfl (by decide +kernel) ⟨Nat.le_of_ble_eq_true rfl, Nat.le_of_ble_eq_true rfl⟩ rfl (Nat.le_of_ble_eq_true rfl) ⟨(show 0 + 0 ≤ (rmC S (s_add S (nI pj) (nI qj)).2) by omega), (show 0 + 0 ≤ (rmS S (s_add S (nI pj) (nI qj)).2) by omega)⟩ (c2 := 0) (s2 := 0) rfl rfl (x_asBytes (some (b.1 6 (wh S qj))) 5 (Or.inr ⟨_, 1, _, rfl, (hx0.K hw_q rfl hb_q), Or.inr (Or.inr (Or.inr (Or.inr ⟨rfl, rfl⟩)))⟩)) ?_
          refine g_astore (lv' := [(5, .null), (4, .ref (b.1 6 (wh S pj))), (3, .int (nI 2)), (0, .ref M), (1, .int (nI pj)), (2, .int (nI qj))]) hC dX9_add_52 (by decide) rfl (Or.inl rfl) ?_
          refine g_iload_n hC dX9_add_54 rfl 2 rfl ?_
          refine g_ifN_ne (a := 2) (tgt := 68) hC dX9_add_55 (by decide) (by omega) (fun h55 => ?_) (fun h55 => ?_)
          · refine g_aload_n hC dX9_add_68 rfl 3 rfl (Or.inr ⟨_, rfl⟩) ?_
            refine g_iload_n hC dX9_add_69 rfl 2 rfl ?_
            refine g_Vx (As := [.int (nI 2)]) (st := []) hC 1 dX9_add_70 rfl (hx0.M hM).1 (hx0.M hM).2 gX9_add_X9_failed rfl (by decide +kernel) ⟨Nat.le_of_ble_eq_true rfl, Nat.le_of_ble_eq_true rfl⟩ rfl (Nat.le_of_ble_eq_true rfl) ⟨(show 0 + 0 ≤ (rmC S (s_add S (nI pj) (nI qj)).2) by omega), (show 0 + 0 ≤ (rmS S (s_add S (nI pj) (nI qj)).2) by omega)⟩ (c2 := 0) (s2 := 0) rfl rfl (x_failed hx0 M hM 2) (fun v1 L1 f1 hp1 => ?_)
            obtain ⟨rfl, hx1⟩ := hp1
            show gW X vwCl 6 L1 f1 0 0 73 [(5, .null), (4, .ref (b.1 6 (wh S pj))), (3, .int (nI 2)), (0, .ref M), (1, .int (nI pj)), (2, .int (nI qj))] [.int (fA 2)]
            have hc_p : castF S pj 4 = 0 := by unfold castF isO; rw [hk_p] <;> decide
            have hc_q : castF S qj 1 = 2 := by unfold castF isO; rw [hk_q] <;> decide
            have hbf : bthF S pj qj 1 = 2 := by unfold bthF; rw [hc_p, hc_q] <;> decide
            have hE : s_add S (nI pj) (nI qj) = (fA 2, (aSc (thS S) 1 2)) := by
              unfold s_add
              rw [if_pos h4, if_pos h11, hpl_p, hpl_q, hbf, if_pos (show 0 < 2 by decide)] <;> rfl
            refine g_widen (c2 := (rmC S (s_add S (nI pj) (nI qj)).2)) (s2 := (rmS S (s_add S (nI pj) (nI qj)).2)) (show 0 ≤ (rmC S (s_add S (nI pj) (nI qj)).2) by omega) (show 0 ≤ (rmS S (s_add S (nI pj) (nI qj)).2) by omega) ?_
            exact g_iret hC hR dX9_add_73 ⟨b, congrArg (fun z => some (Value.int (Prod.fst z))) hE.symm, by rw [hE]; exact hx1, xG.rf⟩
          · exfalso; omega
    · refine g_iconst hC dX9_add_14 (v := (-1)) (by decide) ?_
      have hE : s_add S (nI pj) q = ((-1), (thS S)) := by
        unfold s_add
        rw [if_pos h4, if_neg h11] <;> rfl
      refine g_widen (c2 := (rmC S (s_add S (nI pj) q).2)) (s2 := (rmS S (s_add S (nI pj) q).2)) (show 0 ≤ (rmC S (s_add S (nI pj) q).2) by omega) (show 0 ≤ (rmS S (s_add S (nI pj) q).2) by omega) ?_
      exact g_iret hC hR dX9_add_15 ⟨b, congrArg (fun z => some (Value.int (Prod.fst z))) hE.symm, by rw [hE]; exact hx0, xG.rf⟩
set_option maxRecDepth 20000 in
set_option maxHeartbeats 4000000 in
theorem y_table {S : aS} {b : xB} (hx : xR cy S b L f) (hI : aI S) (M : Nat) (hM : b.1 9 0 = M) (p : Int32) (kb : Nat) (n : Int32) (hkb : kb < 2) : gCt l D vwCl (gKK D cy adK adV) yX9_table wsX9_table { frames := 4, cells := 3, slots := 362, locals := 87 } [.ref M, .int p, .int (nI kb), .int n] L f (xP cy S b (s_table S p kb n).2 (fun _ => some (.int (s_table S p kb n).1))) := by
  refine gCt.of gKK_ok (by decide) rfl rfl (fun X hC hR hnm => ?_)
  have hC : gC X l _ D vwCl (cyT cy) (gKK D cy adK adV) cX9_table 5 wsX9_table RX9 := hC
  have hx0 := hx.th0
  have hI0 := hI.th
  show gW X vwCl 5 L f 0 0 0 [(0, .ref M), (1, .int p), (2, .int (nI kb)), (3, .int n)] []
  refine g_iload_n hC dX9_table_0 rfl 1 rfl ?_
  refine g_S (As := [.int p]) (st := []) hC 1 dX9_table_1 gX9_table_X9_isPlace rfl (by decide +kernel) ⟨Nat.le_of_ble_eq_true rfl, Nat.le_of_ble_eq_true rfl⟩ rfl (Nat.le_of_ble_eq_true rfl) ⟨Nat.le_of_ble_eq_true rfl, Nat.le_of_ble_eq_true rfl⟩ (c2 := 0) (s2 := 0) rfl rfl (x_isPlace _) ?_
  refine g_ifB_ne (P := isP p) (tgt := 9) hC dX9_table_4 (by decide) (fun h4 => ?_) (fun h4 => ?_)
  · obtain ⟨pj, hpj, rfl⟩ := isP_j h4
    have hpl_p : pl (nI pj) = pj := nI_clamp (by omega)
    refine g_iload_n hC dX9_table_9 rfl 3 rfl ?_
    refine g_iconst hC dX9_table_10 (v := nI 1) (by decide) ?_
    refine g_icmp_lt (x := n) (y := nI 1) (tgt := 20) hC dX9_table_11 (by decide) (fun h11 => ?_) (fun h11 => ?_)
    · refine g_bipush hC dX9_table_20 (v := (-2)) (by decide) ?_
      have hE : s_table S (nI pj) kb n = ((-2), (thS S)) := by
        unfold s_table
        rw [if_pos h4, if_neg (show ¬ (nI 1 ≤ n ∧ n ≤ nI 64) by
          have e1 : (nI 1).toInt = 1 := rfl
          have e2 : (nI 64).toInt = 64 := rfl
          intro z
          simp only [Int32.lt_iff_toInt_lt, Int32.le_iff_toInt_le, Int32.toInt_zero] at h11 z
          omega)] <;> rfl
      refine g_widen (c2 := 3) (s2 := 362) (Nat.le_of_ble_eq_true rfl) (Nat.le_of_ble_eq_true rfl) ?_
      exact g_iret hC hR dX9_table_22 ⟨b, congrArg (fun z => some (Value.int (Prod.fst z))) hE.symm, by rw [hE]; exact hx0, xG.rf⟩
    · refine g_iload_n hC dX9_table_14 rfl 3 rfl ?_
      refine g_bipush hC dX9_table_15 (v := nI 64) (by decide) ?_
      refine g_icmp_le (x := n) (y := nI 64) (tgt := 23) hC dX9_table_17 (by decide) (fun h17 => ?_) (fun h17 => ?_)
      · have hR_n : nI 1 ≤ n ∧ n ≤ nI 64 := ⟨Int32.not_lt.mp h11, h17⟩
        obtain ⟨nj, hn1, hn2, rfl⟩ := ty_j (lo := 1) (hi := 64) (by decide) hR_n (by decide)
        have hpl_n : pl (nI nj) = nj := nI_clamp (by omega)
        refine g_iload_n hC dX9_table_23 rfl 3 rfl ?_
        have hszb := szF_b (n := nj)
        refine g_S (As := [.int (nI nj)]) (st := []) hC 1 dX9_table_24 gX9_table_X9_slotsFor rfl (by decide +kernel) ⟨Nat.le_of_ble_eq_true rfl, Nat.le_of_ble_eq_true rfl⟩ rfl (Nat.le_of_ble_eq_true rfl) ⟨Nat.le_of_ble_eq_true rfl, Nat.le_of_ble_eq_true rfl⟩ (c2 := 0) (s2 := 0) rfl rfl (x_slotsFor nj (by omega)) ?_
        refine g_istore (lv' := [(4, .int (nI (szF nj))), (0, .ref M), (1, .int (nI pj)), (2, .int (nI kb)), (3, .int (nI nj))]) hC dX9_table_27 (by decide) rfl ?_
        refine g_aload_n hC dX9_table_29 rfl 1 rfl (Or.inr ⟨_, rfl⟩) ?_
        refine g_get hC (by decide +kernel) rfl (hx0.M hM).1 (hx0.M hM).2 0 (by decide) (by decide +kernel) (Or.inl rfl) rfl dX9_table_30 ?_
        refine g_iload_n hC dX9_table_33 rfl 2 rfl ?_
        refine g_iload_n hC dX9_table_34 rfl 3 rfl ?_
        refine g_ifN_eq (a := kb) (tgt := 54) hC dX9_table_35 (by decide) (by omega) (fun h35 => ?_) (fun h35 => ?_)
        · refine g_new hC (fs := [.null, .null, .int (nI 0), .int (nI 0), .int (nI 0)]) (by decide +kernel) tyX7 tyX7_ok (by decide +kernel) (by decide +kernel) (by decide +kernel) (ci := 5) rfl (fun j hj => by
            rcases (show j = 0 ∨ j = 1 ∨ j = 2 ∨ j = 3 ∨ j = 4 by omega) with rfl | rfl | rfl | rfl | rfl <;> rfl) (Nat.le_of_ble_eq_true rfl) (Nat.le_of_ble_eq_true rfl) dX9_table_54 (fun q54 hq54 => ?_)
          refine g_wx (P := fun L9 f9 => xR cy ((thS S)) b L9 f9 ∧ xN cy ((thS S)) b L9 f9 q54 (.inr (5, [.null, .null, .int (nI 0), .int (nI 0), .int (nI 0)]))) ⟨hx0.more hq54, xN.new hx0 hq54⟩ (fun L1 f1 hw1 => ?_)
          obtain ⟨hx1, hq54_1⟩ := hw1
          show gW X vwCl 5 L1 f1 1 5 57 [(4, .int (nI (szF nj))), (0, .ref M), (1, .int (nI pj)), (2, .int (nI kb)), (3, .int (nI nj))] [.ref q54, .int (nI pj), .ref (b.1 9 1)]
          refine g_dup hC dX9_table_57 rfl ?_
          refine g_iload hC dX9_table_58 0 rfl ?_
          have hls0 : ∀ t, t < S.1 13 → S.2.1 15 t ≤ 256 := fun u hu => (sz_b (hI.tk hu).1).2
          refine g_Ix (As := [.int (nI (szF nj))]) (st := [.ref q54, .int (nI pj), .ref (b.1 9 1)]) hC 1 dX9_table_60 ggX9_table_X7_init rfl (by decide +kernel) (by decide +kernel) (by decide +kernel) rfl (by decide +kernel) ⟨Nat.le_of_ble_eq_true rfl, Nat.le_of_ble_eq_true rfl⟩ rfl (Nat.le_of_ble_eq_true rfl) ⟨(Nat.le_of_ble_eq_true rfl), (Nat.le_of_ble_eq_true rfl)⟩ (c2 := 3) (s2 := 361) rfl rfl (x_7_init_T hx1 q54 (szF nj) (by omega) hq54_1) (fun v5 L5 f5 hp5 => ?_)
          obtain ⟨rfl, c5, d5, hx5, ha5, hc5, hd5, hac, had, hcd⟩ := hp5
          obtain ⟨hy1, hy2⟩ := hx5.tab (kb := kb) (xF.of hI0) hls0 (by omega) ha5 hc5 hd5 hac had hcd (if_pos h35).symm
          refine g_wx (P := fun L9 f9 => ∃ b9, b9.1 6 (S.1 13) = q54 ∧ xR cy (newT (thS S) kb (szF nj)) b9 L9 f9 ∧ xG S b b9) ⟨_, bkT_6, hy1, hy2⟩ (fun L6 f6 hw6 => ?_)
          obtain ⟨b6, hq6, hx6, hg6⟩ := hw6
          subst hq6
          have h14 : (newT (thS S) kb (szF nj)).2.1 14 (S.1 13) = kb := va_up_self _ _ _
          have hk14 : (newT (thS S) kb (szF nj)).2.1 14 (S.1 13) = 0 := by rw [h14]; exact h35
          show gW X vwCl 5 L6 f6 3 361 63 [(4, .int (nI (szF nj))), (0, .ref M), (1, .int (nI pj)), (2, .int (nI kb)), (3, .int (nI nj))] [.ref (b6.1 6 (S.1 13)), .int (nI pj), .ref (b.1 9 1)]
          refine g_widen (c2 := 3) (s2 := 362) (Nat.le_of_ble_eq_true rfl) (Nat.le_of_ble_eq_true rfl) ?_
          refine g_aastO hC 5 rfl (r := (RX7, TX7, 5)) (gKK_C "KeptTerms$Table" "KeptTerms$Thing" (by decide)) rfl (hx6.T (show S.1 13 < S.1 13 + 1 by omega) rfl hk14).1 (hx6.T (show S.1 13 < S.1 13 + 1 by omega) rfl hk14).2 (hx6.Mp ((hg6 9 1 (by decide) (by decide) (show 1 < 4 by decide)).trans rfl)).1 (hx6.Mp ((hg6 9 1 (by decide) (by decide) (show 1 < 4 by decide)).trans rfl)).2 (pj) rfl (show pj < 10 by omega) (by decide) dX9_table_63 ?_
          refine g_fx (P := xR cy ((aN (aN (newT (thS S) kb (szF nj)) 2 pj 4) 3 pj (S.1 13))) b6) (hx6.hold (x := 4) (r := S.1 13) hpj (by decide) ((hg6 9 1 (by decide) (by decide) (show 1 < 4 by decide)).trans rfl)) (fun f7 hx7 => ?_)
          show gW X vwCl 5 L6 f7 3 362 64 [(4, .int (nI (szF nj))), (0, .ref M), (1, .int (nI pj)), (2, .int (nI kb)), (3, .int (nI nj))] []
          refine g_iload hC dX9_table_64 0 rfl ?_
          have hE : s_table S (nI pj) kb (nI nj) = (nI (szF nj), (aN (aN (newT (thS S) kb (szF nj)) 2 pj 4) 3 pj (S.1 13))) := by
            unfold s_table
            rw [if_pos h4, if_pos hR_n, hpl_n, hpl_p, if_pos h35] <;> rfl
          exact g_iret hC hR dX9_table_66 ⟨b6, congrArg (fun z => some (Value.int (Prod.fst z))) hE.symm, by rw [hE]; exact hx7, hg6⟩
        · refine g_new hC (fs := [.null, .null, .int (nI 0), .int (nI 0), .int (nI 0), .null]) (by decide +kernel) tyX1 tyX1_ok (by decide +kernel) (by decide +kernel) (by decide +kernel) (ci := 1) rfl (fun j hj => by
            rcases (show j = 0 ∨ j = 1 ∨ j = 2 ∨ j = 3 ∨ j = 4 ∨ j = 5 by omega) with rfl | rfl | rfl | rfl | rfl | rfl <;> rfl) (Nat.le_of_ble_eq_true rfl) (Nat.le_of_ble_eq_true rfl) dX9_table_38 (fun q38 hq38 => ?_)
          refine g_wx (P := fun L9 f9 => xR cy ((thS S)) b L9 f9 ∧ xN cy ((thS S)) b L9 f9 q38 (.inr (1, [.null, .null, .int (nI 0), .int (nI 0), .int (nI 0), .null]))) ⟨hx0.more hq38, xN.new hx0 hq38⟩ (fun L1 f1 hw1 => ?_)
          obtain ⟨hx1, hq38_1⟩ := hw1
          show gW X vwCl 5 L1 f1 1 6 41 [(4, .int (nI (szF nj))), (0, .ref M), (1, .int (nI pj)), (2, .int (nI kb)), (3, .int (nI nj))] [.ref q38, .int (nI pj), .ref (b.1 9 1)]
          refine g_dup hC dX9_table_41 rfl ?_
          refine g_iload hC dX9_table_42 0 rfl ?_
          refine g_aload_n hC dX9_table_44 rfl 1 rfl (Or.inr ⟨_, rfl⟩) ?_
          refine g_get hC (by decide +kernel) rfl (hx1.M hM).1 (hx1.M hM).2 1 (by decide) (by decide +kernel) (Or.inl rfl) rfl dX9_table_45 ?_
          have hls0 : ∀ t, t < S.1 13 → S.2.1 15 t ≤ 256 := fun u hu => (sz_b (hI.tk hu).1).2
          refine g_Ix (As := [.int (nI (szF nj)), .ref (b.1 9 2)]) (st := [.ref q38, .int (nI pj), .ref (b.1 9 1)]) hC 2 dX9_table_48 ggX9_table_X1_init rfl (by decide +kernel) (by decide +kernel) (by decide +kernel) rfl (by decide +kernel) ⟨Nat.le_of_ble_eq_true rfl, Nat.le_of_ble_eq_true rfl⟩ rfl (Nat.le_of_ble_eq_true rfl) ⟨(Nat.le_of_ble_eq_true rfl), (Nat.le_of_ble_eq_true rfl)⟩ (c2 := 3) (s2 := 362) rfl rfl (x_1_init hx1 q38 (szF nj) (b.1 9 2) (by omega) hq38_1 rfl) (fun v5 L5 f5 hp5 => ?_)
          obtain ⟨rfl, c5, d5, hx5, ha5, hc5, hd5, hac, had, hcd⟩ := hp5
          obtain ⟨hy1, hy2⟩ := hx5.tab (kb := kb) (xF.of hI0) hls0 (by omega) ha5 hc5 hd5 hac had hcd (if_neg h35).symm
          refine g_wx (P := fun L9 f9 => ∃ b9, b9.1 6 (S.1 13) = q38 ∧ xR cy (newT (thS S) kb (szF nj)) b9 L9 f9 ∧ xG S b b9) ⟨_, bkT_6, hy1, hy2⟩ (fun L6 f6 hw6 => ?_)
          obtain ⟨b6, hq6, hx6, hg6⟩ := hw6
          subst hq6
          have h14 : (newT (thS S) kb (szF nj)).2.1 14 (S.1 13) = kb := va_up_self _ _ _
          have hk14 : (newT (thS S) kb (szF nj)).2.1 14 (S.1 13) ≠ 0 := by rw [h14]; exact h35
          show gW X vwCl 5 L6 f6 3 362 51 [(4, .int (nI (szF nj))), (0, .ref M), (1, .int (nI pj)), (2, .int (nI kb)), (3, .int (nI nj))] [.ref (b6.1 6 (S.1 13)), .int (nI pj), .ref (b.1 9 1)]
          refine g_goto (tgt := 63) hC dX9_table_51 (by decide) ?_
          refine g_aastO hC 5 rfl (r := (RX1, TX1, 6)) (gKK_C "KeptTerms$Keeper" "KeptTerms$Thing" (by decide)) rfl (hx6.K (show S.1 13 < S.1 13 + 1 by omega) rfl hk14).1 (hx6.K (show S.1 13 < S.1 13 + 1 by omega) rfl hk14).2 (hx6.Mp ((hg6 9 1 (by decide) (by decide) (show 1 < 4 by decide)).trans rfl)).1 (hx6.Mp ((hg6 9 1 (by decide) (by decide) (show 1 < 4 by decide)).trans rfl)).2 (pj) rfl (show pj < 10 by omega) (by decide) dX9_table_63 ?_
          refine g_fx (P := xR cy ((aN (aN (newT (thS S) kb (szF nj)) 2 pj 5) 3 pj (S.1 13))) b6) (hx6.hold (x := 5) (r := S.1 13) hpj (by decide) ((hg6 9 1 (by decide) (by decide) (show 1 < 4 by decide)).trans rfl)) (fun f7 hx7 => ?_)
          show gW X vwCl 5 L6 f7 3 362 64 [(4, .int (nI (szF nj))), (0, .ref M), (1, .int (nI pj)), (2, .int (nI kb)), (3, .int (nI nj))] []
          refine g_iload hC dX9_table_64 0 rfl ?_
          have hE : s_table S (nI pj) kb (nI nj) = (nI (szF nj), (aN (aN (newT (thS S) kb (szF nj)) 2 pj 5) 3 pj (S.1 13))) := by
            unfold s_table
            rw [if_pos h4, if_pos hR_n, hpl_n, hpl_p, if_neg h35] <;> rfl
          exact g_iret hC hR dX9_table_66 ⟨b6, congrArg (fun z => some (Value.int (Prod.fst z))) hE.symm, by rw [hE]; exact hx7, hg6⟩
      · refine g_bipush hC dX9_table_20 (v := (-2)) (by decide) ?_
        have hE : s_table S (nI pj) kb n = ((-2), (thS S)) := by
          unfold s_table
          rw [if_pos h4, if_neg (show ¬ (nI 1 ≤ n ∧ n ≤ nI 64) by
            have e1 : (nI 1).toInt = 1 := rfl
            have e2 : (nI 64).toInt = 64 := rfl
            intro z
            simp only [Int32.lt_iff_toInt_lt, Int32.le_iff_toInt_le, Int32.toInt_zero] at h17 z
            omega)] <;> rfl
        refine g_widen (c2 := 3) (s2 := 362) (Nat.le_of_ble_eq_true rfl) (Nat.le_of_ble_eq_true rfl) ?_
        exact g_iret hC hR dX9_table_22 ⟨b, congrArg (fun z => some (Value.int (Prod.fst z))) hE.symm, by rw [hE]; exact hx0, xG.rf⟩
  · refine g_iconst hC dX9_table_7 (v := (-1)) (by decide) ?_
    have hE : s_table S p kb n = ((-1), (thS S)) := by
      unfold s_table
      rw [if_neg h4] <;> rfl
    refine g_widen (c2 := 3) (s2 := 362) (Nat.le_of_ble_eq_true rfl) (Nat.le_of_ble_eq_true rfl) ?_
    exact g_iret hC hR dX9_table_8 ⟨b, congrArg (fun z => some (Value.int (Prod.fst z))) hE.symm, by rw [hE]; exact hx0, xG.rf⟩
end Y5
